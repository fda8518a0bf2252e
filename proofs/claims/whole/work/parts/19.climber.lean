/-! ===== changes that better places ===== -/
theorem hld.set {σ : Mem} {a i : Nat} {p : List Nat} (h : hld σ a p) (hi : i < p.length) (s : Nat) : hld (mu σ a i (s : Int)) a (p.set i s) := by
  intro j hj
  rw [List.length_set] at hj
  rw [mu_at, List.getElem_set]
  by_cases e : j = i
  · subst e; simp
  · rw [if_neg e, if_neg (fun q => e q.symm)]
    exact h j hj
/-- the places behind a change: the shop goes to the slot, who is there goes to the shop's -/
def chg (p : List Nat) (a s : Nat) : Option (List Nat) :=
  if s ∈ p then (if pg p a = s then none else some ((p.set a s).set (p.idxOf s) (pg p a))) else some (p.set a s)
theorem chg_ok {n a s : Nat} {p q : List Nat} (hp : okP n p) (ha : a < p.length) (hs : s < n) (h : chg p a s = some q) : q.length = p.length ∧ ∀ t ∈ q, t < n := by
  unfold chg at h
  have hpa := hp.1 _ (pg_mem ha)
  split at h
  · split at h
    · cases h
    · cases h
      refine ⟨by simp, fun t ht => ?_⟩
      rcases List.mem_or_eq_of_mem_set ht with q | q
      · rcases List.mem_or_eq_of_mem_set q with q | q
        · exact hp.1 t q
        · rw [q]; exact hs
      · rw [q]; exact hpa
  · cases h
    refine ⟨by simp, fun t ht => ?_⟩
    rcases List.mem_or_eq_of_mem_set ht with q | q
    · exact hp.1 t q
    · rw [q]; exact hs
/-- one more change looked at: the least cost so far (-1: none), the places that have it -/
def cst (c : List Nat → Int) (st : Int × Option (List Nat)) (q : List Nat) : Int × Option (List Nat) :=
  if c q = -1 then st else if st.1 = -1 ∨ c q < st.1 then (c q, some q) else match st.2 with
    | some r => if c q = st.1 ∧ lexlt q r = true then (c q, some q) else st
    | none => st
def cstO (c : List Nat → Int) (st : Int × Option (List Nat)) : Option (List Nat) → Int × Option (List Nat)
  | some q => cst c st q
  | none => st
/-- the changes of a shop to the slots s .., d of them; of the shops a .., d of them -/
def chA (c : List Nat → Int) (p : List Nat) (a : Nat) : Nat → Nat → Int × Option (List Nat) → Int × Option (List Nat)
  | _, 0, st => st
  | s, d + 1, st => chA c p a (s + 1) d (cstO c st (chg p a s))
def chB (c : List Nat → Int) (p : List Nat) (n : Nat) : Nat → Nat → Int × Option (List Nat) → Int × Option (List Nat)
  | _, 0, st => st
  | a, d + 1, st => chB c p n (a + 1) d (chA c p a 0 n st)
/-- the best change: its cost and its places; none -/
def fcS (c : List Nat → Int) (n : Nat) (p : List Nat) : Int × Option (List Nat) := chB c p n 0 p.length (c p, none)
def clH (m : Nat) (st : Int × Option (List Nat)) (σ : Mem) : Prop := σ 40 4 = st.1 ∧ σ 40 5 = (if st.2 = none then 0 else 1) ∧ ∀ r, st.2 = some r → r.length = m ∧ σ 44 1 = m ∧ hld σ 46 r
def seats41 : isSeats 41 := ⟨by decide, rfl, rfl, rfl, by decide, by decide, rfl, rfl, rfl⟩
def seats44 : isSeats 44 := ⟨by decide, rfl, rfl, rfl, by decide, by decide, rfl, rfl, rfl⟩
theorem clH.same {m : Nat} {st : Int × Option (List Nat)} {σ σ1 : Mem} {S : List Nat} (h : clH m st σ) (hS : Same S σ σ1) (h0 : 40 ∉ S) (h1 : 44 ∉ S) (h2 : 46 ∉ S) : clH m st σ1 := by
  refine ⟨by rw [hS 40 h0]; exact h.1, by rw [hS 40 h0]; exact h.2.1, fun r hr => ?_⟩
  have := h.2.2 r hr
  exact ⟨this.1, by rw [hS 44 h1]; exact this.2.1, this.2.2.cong (hS 46 h2)⟩
set_option maxRecDepth 100000 in
theorem rX1_compare_0 {x1 : Int}  {σ : Mem} {Q : Int → Mem → Prop} (h : (x1 ≠ (-1) → ((σ 40 4) = (-1) → CM mX8_copy [.inr 44, .inr 41] (mu (mu σ 40 4 x1) 40 5 1) (fun _ σ4 => Q 0 σ4)) ∧ ((σ 40 4) ≠ (-1) → ((σ 40 4) ≤ x1 → ((σ 40 5) = 0 → Q 0 σ) ∧ ((σ 40 5) ≠ 0 → (x1 ≠ (σ 40 4) → Q 0 σ) ∧ (x1 = (σ 40 4) → CM mX8_comesBefore [.inr 41, .inr 44] σ (fun v9 σ10 => (v9 = 0 → Q 0 σ10) ∧ (v9 ≠ 0 → CM mX8_copy [.inr 44, .inr 41] (mu (mu σ10 40 4 x1) 40 5 1) (fun _ σ14 => Q 0 σ14)))))) ∧ (x1 < (σ 40 4) → CM mX8_copy [.inr 44, .inr 41] (mu (mu σ 40 4 x1) 40 5 1) (fun _ σ17 => Q 0 σ17)))) ∧ (x1 = (-1) → Q 0 σ)) : CM mX1_compare [.inr 40, .inl x1] σ Q := by
  refine CM_of_GO (by decide +kernel) rfl (Nat.le_of_ble_eq_true rfl) ?_
  show GO none mX1_compare 0 [some (.inr 40), some (.inl x1), none] [] σ Q
  refine g_iload_n dX1_compare_0 rfl rfl ?_
  refine g_iconst dX1_compare_1 (by decide) ?_
  refine g_icmp_ne (tgt := 6) dX1_compare_2 (by decide) (fun c1 => ?_) (fun c1 => ?_)
  · have h := h.1 c1
    refine g_aload_n dX1_compare_6 rfl rfl ?_
    refine g_getI flX1_21 (by decide) rfl (by decide) rfl dX1_compare_7 ?_
    refine g_iconst dX1_compare_10 (by decide) ?_
    refine g_icmp_eq (tgt := 22) dX1_compare_11 (by decide) (fun c2 => ?_) (fun c2 => ?_)
    · have h := h.1 c2
      refine g_iconst dX1_compare_22 (by decide) ?_
      refine g_goto (tgt := 27) dX1_compare_23 (by decide) ?_
      refine g_istore_n (ls' := [some (.inr 40), some (.inl x1), some (.inl 1)]) dX1_compare_27 rfl (by decide) rfl ?_
      refine g_iload_n dX1_compare_28 rfl rfl ?_
      refine g_if_ne (tgt := 61) dX1_compare_29 (by decide) (fun _ => ?_) (fun c9 => absurd c9 (by decide))
      refine g_aload_n dX1_compare_61 rfl rfl ?_
      refine g_iload_n dX1_compare_62 rfl rfl ?_
      refine g_putI fpX1_21 (by decide) rfl (by decide) rfl (Or.inl rfl) dX1_compare_63 ?_
      refine g_aload_n dX1_compare_66 rfl rfl ?_
      refine g_iconst dX1_compare_67 (by decide) ?_
      refine g_putI fpX1_25 (by decide) rfl (by decide) rfl (Or.inr ⟨rfl, (by decide)⟩) dX1_compare_68 ?_
      refine g_aload_n dX1_compare_71 rfl rfl ?_
      refine g_getR (r' := 44) flX1_18 (by decide) rfl (by decide) rfl dX1_compare_72 ?_
      refine g_aload_n dX1_compare_75 rfl rfl ?_
      refine g_getR (r' := 41) flX1_12 (by decide) rfl (by decide) rfl dX1_compare_76 ?_
      refine g_invVV (as := [.inr 41]) (rest := []) okX8_copy mlX1_37 (by decide) rfl ⟨_, _, rfl⟩ rfl ⟨Nat.le_of_ble_eq_true rfl, Nat.le_of_ble_eq_true rfl⟩ (Nat.le_of_ble_eq_true rfl) rfl dX1_compare_79 h rfl (fun σ4 e5 => ?_)
      have h := e5
      exact g_return rfl dX1_compare_82 h
    · have h := h.2 c2
      refine g_iload_n dX1_compare_14 rfl rfl ?_
      refine g_aload_n dX1_compare_15 rfl rfl ?_
      refine g_getI flX1_21 (by decide) rfl (by decide) rfl dX1_compare_16 ?_
      refine g_icmp_ge (tgt := 26) dX1_compare_19 (by decide) (fun c6 => ?_) (fun c6 => ?_)
      · have h := h.1 c6
        refine g_iconst dX1_compare_26 (by decide) ?_
        refine g_istore_n (ls' := [some (.inr 40), some (.inl x1), some (.inl 0)]) dX1_compare_27 rfl (by decide) rfl ?_
        refine g_iload_n dX1_compare_28 rfl rfl ?_
        refine g_if_ne (tgt := 61) dX1_compare_29 (by decide) (fun c9 => absurd c9 (by decide)) (fun _ => ?_)
        refine g_aload_n dX1_compare_32 rfl rfl ?_
        refine g_getI flX1_25 (by decide) rfl (by decide) rfl dX1_compare_33 ?_
        refine g_if_eq (tgt := 82) dX1_compare_36 (by decide) (fun c7 => ?_) (fun c7 => ?_)
        · have h := h.1 c7
          exact g_return rfl dX1_compare_82 h
        · have h := h.2 c7
          refine g_iload_n dX1_compare_39 rfl rfl ?_
          refine g_aload_n dX1_compare_40 rfl rfl ?_
          refine g_getI flX1_21 (by decide) rfl (by decide) rfl dX1_compare_41 ?_
          refine g_icmp_ne (tgt := 82) dX1_compare_44 (by decide) (fun c8 => ?_) (fun c8 => ?_)
          · have h := h.1 c8
            exact g_return rfl dX1_compare_82 h
          · have h := h.2 c8
            refine g_aload_n dX1_compare_47 rfl rfl ?_
            refine g_getR (r' := 41) flX1_12 (by decide) rfl (by decide) rfl dX1_compare_48 ?_
            refine g_aload_n dX1_compare_51 rfl rfl ?_
            refine g_getR (r' := 44) flX1_18 (by decide) rfl (by decide) rfl dX1_compare_52 ?_
            refine g_invVI (as := [.inr 44]) (rest := []) okX8_comesBefore mlX1_76 (by decide) rfl ⟨_, _, rfl⟩ rfl ⟨Nat.le_of_ble_eq_true rfl, Nat.le_of_ble_eq_true rfl⟩ (Nat.le_of_ble_eq_true rfl) rfl dX1_compare_55 h (Or.inr rfl) (fun v9 σ10 e11 => ?_)
            have h := e11
            refine g_if_eq (tgt := 82) dX1_compare_58 (by decide) (fun c12 => ?_) (fun c12 => ?_)
            · have h := h.1 c12
              exact g_return rfl dX1_compare_82 h
            · have h := h.2 c12
              refine g_aload_n dX1_compare_61 rfl rfl ?_
              refine g_iload_n dX1_compare_62 rfl rfl ?_
              refine g_putI fpX1_21 (by decide) rfl (by decide) rfl (Or.inl rfl) dX1_compare_63 ?_
              refine g_aload_n dX1_compare_66 rfl rfl ?_
              refine g_iconst dX1_compare_67 (by decide) ?_
              refine g_putI fpX1_25 (by decide) rfl (by decide) rfl (Or.inr ⟨rfl, (by decide)⟩) dX1_compare_68 ?_
              refine g_aload_n dX1_compare_71 rfl rfl ?_
              refine g_getR (r' := 44) flX1_18 (by decide) rfl (by decide) rfl dX1_compare_72 ?_
              refine g_aload_n dX1_compare_75 rfl rfl ?_
              refine g_getR (r' := 41) flX1_12 (by decide) rfl (by decide) rfl dX1_compare_76 ?_
              refine g_invVV (as := [.inr 41]) (rest := []) okX8_copy mlX1_37 (by decide) rfl ⟨_, _, rfl⟩ rfl ⟨Nat.le_of_ble_eq_true rfl, Nat.le_of_ble_eq_true rfl⟩ (Nat.le_of_ble_eq_true rfl) rfl dX1_compare_79 h rfl (fun σ14 e15 => ?_)
              have h := e15
              exact g_return rfl dX1_compare_82 h
      · have h := h.2 c6
        refine g_iconst dX1_compare_22 (by decide) ?_
        refine g_goto (tgt := 27) dX1_compare_23 (by decide) ?_
        refine g_istore_n (ls' := [some (.inr 40), some (.inl x1), some (.inl 1)]) dX1_compare_27 rfl (by decide) rfl ?_
        refine g_iload_n dX1_compare_28 rfl rfl ?_
        refine g_if_ne (tgt := 61) dX1_compare_29 (by decide) (fun _ => ?_) (fun c9 => absurd c9 (by decide))
        refine g_aload_n dX1_compare_61 rfl rfl ?_
        refine g_iload_n dX1_compare_62 rfl rfl ?_
        refine g_putI fpX1_21 (by decide) rfl (by decide) rfl (Or.inl rfl) dX1_compare_63 ?_
        refine g_aload_n dX1_compare_66 rfl rfl ?_
        refine g_iconst dX1_compare_67 (by decide) ?_
        refine g_putI fpX1_25 (by decide) rfl (by decide) rfl (Or.inr ⟨rfl, (by decide)⟩) dX1_compare_68 ?_
        refine g_aload_n dX1_compare_71 rfl rfl ?_
        refine g_getR (r' := 44) flX1_18 (by decide) rfl (by decide) rfl dX1_compare_72 ?_
        refine g_aload_n dX1_compare_75 rfl rfl ?_
        refine g_getR (r' := 41) flX1_12 (by decide) rfl (by decide) rfl dX1_compare_76 ?_
        refine g_invVV (as := [.inr 41]) (rest := []) okX8_copy mlX1_37 (by decide) rfl ⟨_, _, rfl⟩ rfl ⟨Nat.le_of_ble_eq_true rfl, Nat.le_of_ble_eq_true rfl⟩ (Nat.le_of_ble_eq_true rfl) rfl dX1_compare_79 h rfl (fun σ17 e18 => ?_)
        have h := e18
        exact g_return rfl dX1_compare_82 h
  · have h := h.2 c1
    exact g_return rfl dX1_compare_5 h
theorem c_X1_compare {m : Nat} {q : List Nat} {x1 : Int} {st : Int × Option (List Nat)} {σ : Mem} {c : List Nat → Int} (hp : hld σ 43 q) (hc : σ 41 1 = q.length) (hl : q.length = m) (h5 : m ≤ 5) (hs : clH m st σ) (ex : x1 = c q) : CM mX1_compare [.inr 40, .inl x1] σ (fun _ σ1 => clH m (cst c st q) σ1 ∧ Same [40, 44, 46] σ σ1) := by
  subst ex
  obtain ⟨e4, e5, e6⟩ := id hs
  have take : cst c st q = (c q, some q) → CM mX8_copy [.inr 44, .inr 41] (mu (mu σ 40 4 (c q)) 40 5 1) (fun _ σ4 => clH m (cst c st q) σ4 ∧ Same [40, 44, 46] σ σ4) := by
    intro he
    have hp2 : hld (mu (mu σ 40 4 (c q)) 40 5 1) (41 + 2) q := (hp.cong (mu_nef (by decide))).cong (mu_nef (by decide))
    refine CM.mono (fun v σ4 h => ?_) (c_X8_copy seats44 seats41 (by decide) hp2 (by rw [mu_nef (by decide), mu_nef (by decide)]; exact hc) (by omega))
    obtain ⟨q1, q2, q3⟩ := h
    refine ⟨?_, ((Same.mu (by decide)).tr (Same.mu (by decide))).tr (q3.wk (by decide))⟩
    rw [he]
    refine ⟨by rw [q3 40 (by decide), mu_atn (by decide), mu_at, if_pos rfl], by rw [q3 40 (by decide), mu_at, if_pos rfl]; simp, fun r hr => ?_⟩
    cases hr
    exact ⟨hl, by rw [q1, hl], q2⟩
  refine rX1_compare_0 ⟨fun hne => ⟨fun h => take ?_, fun h => ⟨fun h2 => ⟨fun h3 => ⟨?_, Same.rf⟩, fun h3 => ⟨fun h4 => ⟨?_, Same.rf⟩, fun h4 => ?_⟩⟩, fun h2 => take ?_⟩⟩, fun h => ⟨?_, Same.rf⟩⟩
  · unfold cst
    rw [if_neg hne, if_pos (Or.inl (by rw [← e4]; exact h))]
  · have e : cst c st q = st := by
      unfold cst
      rw [if_neg hne, if_neg (by omega)]
      cases h8 : st.2 with
      | none => rfl
      | some r => rw [h8] at e5; rw [e5] at h3; simp at h3
    rw [e]; exact hs
  · have e : cst c st q = st := by
      unfold cst
      rw [if_neg hne, if_neg (by omega)]
      cases h8 : st.2 with
      | none => rfl
      | some r => show (if c q = st.1 ∧ lexlt q r = true then (c q, some q) else st) = st; rw [if_neg (fun z => h4 (by rw [e4]; exact z.1))]
    rw [e]; exact hs
  · cases h8 : st.2 with
    | none => rw [h8] at e5; rw [e5] at h3; simp at h3
    | some r =>
      obtain ⟨r1, r2, r3⟩ := e6 r h8
      refine CM.mono (fun v σ10 h9 => ?_) (c_X8_comesBefore seats41 seats44 hp r3 hc (by omega) (by omega))
      obtain ⟨rfl, rfl⟩ := h9
      refine ⟨fun z => ⟨?_, Same.rf⟩, fun z => take ?_⟩
      · have e : cst c st q = st := by
          unfold cst
          rw [if_neg hne, if_neg (by omega), h8]
          show (if c q = st.1 ∧ lexlt q r = true then (c q, some q) else st) = st
          rw [if_neg (fun y => ite_no z y.2)]
        rw [e]; exact hs
      · unfold cst
        rw [if_neg hne, if_neg (by omega), h8]
        show (if c q = st.1 ∧ lexlt q r = true then (c q, some q) else st) = (c q, some q)
        rw [if_pos ⟨by rw [← e4]; exact h4, ite_yes z⟩]
  · unfold cst
    rw [if_neg hne, if_pos (Or.inr (by rw [← e4]; exact h2))]
  · unfold cst
    rw [if_pos h]
    exact hs
set_option maxRecDepth 100000 in
theorem rX1_tryChange_0 {x1 x2 x3 : Int}  {σ : Mem} {Q : Int → Mem → Prop} (h : ((0 ≤ x2) ∧ (((x2 < 5) ∧ ((((σ 41 1) ≤ 5) ∧ (((whoF (σ 43) x3 0 ((σ 41 1)).toNat) ≠ x2 → ((whoF (σ 43) x3 0 ((σ 41 1)).toNat) = (-1) → CM mX3_costOf [.inr 27, .inl x1, .inr 41] (mu σ 43 (x2).toNat x3) (fun v18 σ19 => CM mX1_compare [.inr 40, .inl v18] σ19 (fun _ σ22 => ((whoF (σ 43) x3 0 ((σ 41 1)).toNat) = (-1) → Q 0 (mu σ22 43 (x2).toNat (σ 43 (x2).toNat))) ∧ ((whoF (σ 43) x3 0 ((σ 41 1)).toNat) ≠ (-1) → ((0 ≤ (whoF (σ 43) x3 0 ((σ 41 1)).toNat)) ∧ ((((whoF (σ 43) x3 0 ((σ 41 1)).toNat) < 5) ∧ (Q 0 (mu (mu σ22 43 (x2).toNat (σ 43 (x2).toNat)) 43 ((whoF (σ 43) x3 0 ((σ 41 1)).toNat)).toNat x3))))))))) ∧ ((whoF (σ 43) x3 0 ((σ 41 1)).toNat) ≠ (-1) → ((0 ≤ (whoF (σ 43) x3 0 ((σ 41 1)).toNat)) ∧ ((((whoF (σ 43) x3 0 ((σ 41 1)).toNat) < 5) ∧ (CM mX3_costOf [.inr 27, .inl x1, .inr 41] (mu (mu σ 43 (x2).toNat x3) 43 ((whoF (σ 43) x3 0 ((σ 41 1)).toNat)).toNat (σ 43 (x2).toNat)) (fun v38 σ39 => CM mX1_compare [.inr 40, .inl v38] σ39 (fun _ σ42 => ((whoF (σ 43) x3 0 ((σ 41 1)).toNat) = (-1) → Q 0 (mu σ42 43 (x2).toNat (σ 43 (x2).toNat))) ∧ ((whoF (σ 43) x3 0 ((σ 41 1)).toNat) ≠ (-1) → Q 0 (mu (mu σ42 43 (x2).toNat (σ 43 (x2).toNat)) 43 ((whoF (σ 43) x3 0 ((σ 41 1)).toNat)).toNat x3)))))))))) ∧ ((whoF (σ 43) x3 0 ((σ 41 1)).toNat) = x2 → Q 0 σ)))))))) : CM mX1_tryChange [.inr 40, .inl x1, .inl x2, .inl x3] σ Q := by
  refine CM_of_GO (by decide +kernel) rfl (Nat.le_of_ble_eq_true rfl) ?_
  show GO none mX1_tryChange 0 [some (.inr 40), some (.inl x1), some (.inl x2), some (.inl x3), none, none] [] σ Q
  refine g_aload_n dX1_tryChange_0 rfl rfl ?_
  refine g_getR (r' := 41) flX1_12 (by decide) rfl (by decide) rfl dX1_tryChange_1 ?_
  refine g_iload_n dX1_tryChange_4 rfl rfl ?_
  obtain ⟨p1, h⟩ := h
  obtain ⟨p2, h⟩ := h
  refine g_invVI (as := [.inl x2]) (rest := []) okX8_at mlX1_60 (by decide) rfl ⟨_, _, rfl⟩ rfl ⟨Nat.le_of_ble_eq_true rfl, Nat.le_of_ble_eq_true rfl⟩ (Nat.le_of_ble_eq_true rfl) rfl dX1_tryChange_5 (c_X8_at ⟨by decide, rfl, rfl, rfl, by decide, by decide, rfl, rfl, rfl⟩ p1 p2) (Or.inl rfl) (fun v3 σ4 e5 => ?_)
  obtain ⟨e5a, e5b⟩ := e5; subst v3; subst σ4
  refine g_istore (ls' := [some (.inr 40), some (.inl x1), some (.inl x2), some (.inl x3), some (.inl (σ 43 (x2).toNat)), none]) dX1_tryChange_8 (by decide) rfl ?_
  refine g_aload_n dX1_tryChange_10 rfl rfl ?_
  refine g_getR (r' := 41) flX1_12 (by decide) rfl (by decide) rfl dX1_tryChange_11 ?_
  refine g_iload_n dX1_tryChange_14 rfl rfl ?_
  refine g_aload_n dX1_tryChange_15 rfl rfl ?_
  refine g_getR (r' := 41) flX1_12 (by decide) rfl (by decide) rfl dX1_tryChange_16 ?_
  refine g_invVI (as := []) (rest := [.inl x3, .inr 41]) okX8_shops mlX1_47 (by decide) rfl ⟨_, _, rfl⟩ rfl ⟨Nat.le_of_ble_eq_true rfl, Nat.le_of_ble_eq_true rfl⟩ (Nat.le_of_ble_eq_true rfl) rfl dX1_tryChange_19 (c_X8_shops ⟨by decide, rfl, rfl, rfl, by decide, by decide, rfl, rfl, rfl⟩) (Or.inl rfl) (fun v6 σ7 e8 => ?_)
  obtain ⟨e8a, e8b⟩ := e8; subst v6; subst σ7
  obtain ⟨p9, h⟩ := h
  refine g_invVI (as := [.inl x3, .inl (σ 41 1)]) (rest := []) okX8_whoIsAt mlX1_64 (by decide) rfl ⟨_, _, rfl⟩ rfl ⟨Nat.le_of_ble_eq_true rfl, Nat.le_of_ble_eq_true rfl⟩ (Nat.le_of_ble_eq_true rfl) rfl dX1_tryChange_22 (c_X8_whoIsAt ⟨by decide, rfl, rfl, rfl, by decide, by decide, rfl, rfl, rfl⟩ p9) (Or.inl rfl) (fun v10 σ11 e12 => ?_)
  obtain ⟨e12a, e12b⟩ := e12; subst v10; subst σ11
  refine g_istore (ls' := [some (.inr 40), some (.inl x1), some (.inl x2), some (.inl x3), some (.inl (σ 43 (x2).toNat)), some (.inl (whoF (σ 43) x3 0 ((σ 41 1)).toNat))]) dX1_tryChange_25 (by decide) rfl ?_
  refine g_iload dX1_tryChange_27 rfl ?_
  refine g_iload_n dX1_tryChange_29 rfl rfl ?_
  refine g_icmp_ne (tgt := 34) dX1_tryChange_30 (by decide) (fun c13 => ?_) (fun c13 => ?_)
  · have h := h.1 c13
    refine g_aload_n dX1_tryChange_34 rfl rfl ?_
    refine g_getR (r' := 41) flX1_12 (by decide) rfl (by decide) rfl dX1_tryChange_35 ?_
    refine g_iload_n dX1_tryChange_38 rfl rfl ?_
    refine g_iload_n dX1_tryChange_39 rfl rfl ?_
    refine g_invVV (as := [.inl x2, .inl x3]) (rest := []) okX8_seat mlX1_68 (by decide) rfl ⟨_, _, rfl⟩ rfl ⟨Nat.le_of_ble_eq_true rfl, Nat.le_of_ble_eq_true rfl⟩ (Nat.le_of_ble_eq_true rfl) rfl dX1_tryChange_40 (c_X8_seat ⟨by decide, rfl, rfl, rfl, by decide, by decide, rfl, rfl, rfl⟩ p1 p2) rfl (fun σ15 e16 => ?_)
    subst σ15
    refine g_iload dX1_tryChange_43 rfl ?_
    refine g_iconst dX1_tryChange_45 (by decide) ?_
    refine g_icmp_eq (tgt := 60) dX1_tryChange_46 (by decide) (fun c17 => ?_) (fun c17 => ?_)
    · have h := h.1 c17
      refine g_aload_n dX1_tryChange_60 rfl rfl ?_
      refine g_aload_n dX1_tryChange_61 rfl rfl ?_
      refine g_getR (r' := 27) flX1_33 (by decide) rfl (by decide) rfl dX1_tryChange_62 ?_
      refine g_iload_n dX1_tryChange_65 rfl rfl ?_
      refine g_aload_n dX1_tryChange_66 rfl rfl ?_
      refine g_getR (r' := 41) flX1_12 (by decide) rfl (by decide) rfl dX1_tryChange_67 ?_
      refine g_invVI (as := [.inl x1, .inr 41]) (rest := [.inr 40]) okX3_costOf mlX1_41 (by decide) rfl ⟨_, _, rfl⟩ rfl ⟨Nat.le_of_ble_eq_true rfl, Nat.le_of_ble_eq_true rfl⟩ (Nat.le_of_ble_eq_true rfl) rfl dX1_tryChange_70 h (Or.inl rfl) (fun v18 σ19 e20 => ?_)
      have h := e20
      refine g_invVV (as := [.inl v18]) (rest := []) okX1_compare mlX1_72 (by decide) rfl ⟨_, _, rfl⟩ rfl ⟨Nat.le_of_ble_eq_true rfl, Nat.le_of_ble_eq_true rfl⟩ (Nat.le_of_ble_eq_true rfl) rfl dX1_tryChange_73 h rfl (fun σ22 e23 => ?_)
      have h := e23
      refine g_aload_n dX1_tryChange_76 rfl rfl ?_
      refine g_getR (r' := 41) flX1_12 (by decide) rfl (by decide) rfl dX1_tryChange_77 ?_
      refine g_iload_n dX1_tryChange_80 rfl rfl ?_
      refine g_iload dX1_tryChange_81 rfl ?_
      refine g_invVV (as := [.inl x2, .inl (σ 43 (x2).toNat)]) (rest := []) okX8_seat mlX1_68 (by decide) rfl ⟨_, _, rfl⟩ rfl ⟨Nat.le_of_ble_eq_true rfl, Nat.le_of_ble_eq_true rfl⟩ (Nat.le_of_ble_eq_true rfl) rfl dX1_tryChange_83 (c_X8_seat ⟨by decide, rfl, rfl, rfl, by decide, by decide, rfl, rfl, rfl⟩ p1 p2) rfl (fun σ25 e26 => ?_)
      subst σ25
      refine g_iload dX1_tryChange_86 rfl ?_
      refine g_iconst dX1_tryChange_88 (by decide) ?_
      refine g_icmp_eq (tgt := 102) dX1_tryChange_89 (by decide) (fun c27 => ?_) (fun c27 => ?_)
      · have h := h.1 c27
        exact g_return rfl dX1_tryChange_102 h
      · have h := h.2 c27
        refine g_aload_n dX1_tryChange_92 rfl rfl ?_
        refine g_getR (r' := 41) flX1_12 (by decide) rfl (by decide) rfl dX1_tryChange_93 ?_
        refine g_iload dX1_tryChange_96 rfl ?_
        refine g_iload_n dX1_tryChange_98 rfl rfl ?_
        obtain ⟨p28, h⟩ := h
        obtain ⟨p29, h⟩ := h
        refine g_invVV (as := [.inl (whoF (σ 43) x3 0 ((σ 41 1)).toNat), .inl x3]) (rest := []) okX8_seat mlX1_68 (by decide) rfl ⟨_, _, rfl⟩ rfl ⟨Nat.le_of_ble_eq_true rfl, Nat.le_of_ble_eq_true rfl⟩ (Nat.le_of_ble_eq_true rfl) rfl dX1_tryChange_99 (c_X8_seat ⟨by decide, rfl, rfl, rfl, by decide, by decide, rfl, rfl, rfl⟩ p28 p29) rfl (fun σ31 e32 => ?_)
        subst σ31
        exact g_return rfl dX1_tryChange_102 h
    · have h := h.2 c17
      refine g_aload_n dX1_tryChange_49 rfl rfl ?_
      refine g_getR (r' := 41) flX1_12 (by decide) rfl (by decide) rfl dX1_tryChange_50 ?_
      refine g_iload dX1_tryChange_53 rfl ?_
      refine g_iload dX1_tryChange_55 rfl ?_
      obtain ⟨p33, h⟩ := h
      obtain ⟨p34, h⟩ := h
      refine g_invVV (as := [.inl (whoF (σ 43) x3 0 ((σ 41 1)).toNat), .inl (σ 43 (x2).toNat)]) (rest := []) okX8_seat mlX1_68 (by decide) rfl ⟨_, _, rfl⟩ rfl ⟨Nat.le_of_ble_eq_true rfl, Nat.le_of_ble_eq_true rfl⟩ (Nat.le_of_ble_eq_true rfl) rfl dX1_tryChange_57 (c_X8_seat ⟨by decide, rfl, rfl, rfl, by decide, by decide, rfl, rfl, rfl⟩ p33 p34) rfl (fun σ36 e37 => ?_)
      subst σ36
      refine g_aload_n dX1_tryChange_60 rfl rfl ?_
      refine g_aload_n dX1_tryChange_61 rfl rfl ?_
      refine g_getR (r' := 27) flX1_33 (by decide) rfl (by decide) rfl dX1_tryChange_62 ?_
      refine g_iload_n dX1_tryChange_65 rfl rfl ?_
      refine g_aload_n dX1_tryChange_66 rfl rfl ?_
      refine g_getR (r' := 41) flX1_12 (by decide) rfl (by decide) rfl dX1_tryChange_67 ?_
      refine g_invVI (as := [.inl x1, .inr 41]) (rest := [.inr 40]) okX3_costOf mlX1_41 (by decide) rfl ⟨_, _, rfl⟩ rfl ⟨Nat.le_of_ble_eq_true rfl, Nat.le_of_ble_eq_true rfl⟩ (Nat.le_of_ble_eq_true rfl) rfl dX1_tryChange_70 h (Or.inl rfl) (fun v38 σ39 e40 => ?_)
      have h := e40
      refine g_invVV (as := [.inl v38]) (rest := []) okX1_compare mlX1_72 (by decide) rfl ⟨_, _, rfl⟩ rfl ⟨Nat.le_of_ble_eq_true rfl, Nat.le_of_ble_eq_true rfl⟩ (Nat.le_of_ble_eq_true rfl) rfl dX1_tryChange_73 h rfl (fun σ42 e43 => ?_)
      have h := e43
      refine g_aload_n dX1_tryChange_76 rfl rfl ?_
      refine g_getR (r' := 41) flX1_12 (by decide) rfl (by decide) rfl dX1_tryChange_77 ?_
      refine g_iload_n dX1_tryChange_80 rfl rfl ?_
      refine g_iload dX1_tryChange_81 rfl ?_
      refine g_invVV (as := [.inl x2, .inl (σ 43 (x2).toNat)]) (rest := []) okX8_seat mlX1_68 (by decide) rfl ⟨_, _, rfl⟩ rfl ⟨Nat.le_of_ble_eq_true rfl, Nat.le_of_ble_eq_true rfl⟩ (Nat.le_of_ble_eq_true rfl) rfl dX1_tryChange_83 (c_X8_seat ⟨by decide, rfl, rfl, rfl, by decide, by decide, rfl, rfl, rfl⟩ p1 p2) rfl (fun σ45 e46 => ?_)
      subst σ45
      refine g_iload dX1_tryChange_86 rfl ?_
      refine g_iconst dX1_tryChange_88 (by decide) ?_
      refine g_icmp_eq (tgt := 102) dX1_tryChange_89 (by decide) (fun c47 => ?_) (fun c47 => ?_)
      · have h := h.1 c47
        exact g_return rfl dX1_tryChange_102 h
      · have h := h.2 c47
        refine g_aload_n dX1_tryChange_92 rfl rfl ?_
        refine g_getR (r' := 41) flX1_12 (by decide) rfl (by decide) rfl dX1_tryChange_93 ?_
        refine g_iload dX1_tryChange_96 rfl ?_
        refine g_iload_n dX1_tryChange_98 rfl rfl ?_
        refine g_invVV (as := [.inl (whoF (σ 43) x3 0 ((σ 41 1)).toNat), .inl x3]) (rest := []) okX8_seat mlX1_68 (by decide) rfl ⟨_, _, rfl⟩ rfl ⟨Nat.le_of_ble_eq_true rfl, Nat.le_of_ble_eq_true rfl⟩ (Nat.le_of_ble_eq_true rfl) rfl dX1_tryChange_99 (c_X8_seat ⟨by decide, rfl, rfl, rfl, by decide, by decide, rfl, rfl, rfl⟩ p33 p34) rfl (fun σ49 e50 => ?_)
        subst σ49
        exact g_return rfl dX1_tryChange_102 h
  · have h := h.2 c13
    exact g_return rfl dX1_tryChange_33 h
theorem whoF_idx {σ : Mem} {a : Nat} {p : List Nat} (h : hld σ a p) (hn : p.Nodup) {s : Nat} (hs : s ∈ p) : whoF (σ a) (s : Int) 0 p.length = (p.idxOf s : Int) := by
  rcases whoF_spec (σ a) (s : Int) p.length 0 with ⟨h1, -⟩ | ⟨j, h1, -, h3, h4, -⟩
  · exact absurd hs ((whoF_mem h s).mp h1)
  · have hj : j < p.length := by omega
    have e := (h j hj).symm.trans h4
    have e2 : p[j] = s := by omega
    rw [h1, ← e2, hn.idxOf_getElem j hj]
theorem c_X1_tryChange {D : Dt} {y a s : Nat} {x1 x2 x3 : Int} {p : List Nat} {st : Int × Option (List Nat)} {σ : Mem} (hw : WF D) (hD : CD D σ) (hp : hld σ 43 p) (hc : σ 41 1 = p.length) (hl : p.length = dm D) (hok : okP (dn D) p) (ha : a < dm D) (hsn : s < dn D) (hst : clH (dm D) st σ) (hy : y < 4) (e1 : x1 = y) (e2 : x2 = a) (e3 : x3 = s) : CM mX1_tryChange [.inr 40, .inl x1, .inl x2, .inl x3] σ (fun _ σ1 => clH (dm D) (cstO (cost D y) st (chg p a s)) σ1 ∧ hld σ1 43 p ∧ Same [40, 43, 44, 46] σ σ1) := by
  subst e1 e2 e3
  have hm := hw.2.1
  have hap : a < p.length := by omega
  have epa := hp.pg hap
  refine rX1_tryChange_0 ⟨by omega, by omega, by omega, ?_⟩
  rw [hc, Int.toNat_natCast, Int.toNat_natCast, epa]
  by_cases hs : s ∈ p
  · have hj : p.idxOf s < p.length := List.idxOf_lt_length_of_mem hs
    have ej : p[p.idxOf s] = s := List.getElem_idxOf hj
    rw [whoF_idx hp hok.2 hs, Int.toNat_natCast]
    refine ⟨fun hne => ⟨fun h => by omega, fun _ => ⟨by omega, by omega, ?_⟩⟩, fun he => ⟨?_, hp, Same.rf⟩⟩
    · have hne2 : p.idxOf s ≠ a := fun q => hne (by rw [q])
      have hps : pg p a ≠ s := fun q => hne2 (by rw [← q, pg_eq hap, hok.2.idxOf_getElem a hap])
      have ech : chg p a s = some ((p.set a s).set (p.idxOf s) (pg p a)) := by
        unfold chg
        rw [if_pos hs, if_neg hps]
      have hck := chg_ok hok hap hsn ech
      have hq : hld (mu (mu σ 43 a s) 43 (p.idxOf s) (pg p a)) 43 ((p.set a s).set (p.idxOf s) (pg p a)) := (hp.set hap s).set (by rw [List.length_set]; exact hj) _
      have hD2 : CD D (mu (mu σ 43 a s) 43 (p.idxOf s) (pg p a)) := hD.same (S := [43]) ((Same.mu (by simp)).tr (Same.mu (by simp))) (by decide)
      refine CM.mono (fun v σ39 h => ?_) (c_X3_costOf (k := 41) hw hD2 seats41 hq (by rw [mu_nef (by decide), mu_nef (by decide), hc, hck.1]) (by rw [hck.1, hl]) hck.2 hy rfl)
      obtain ⟨rfl, rfl⟩ := h
      refine CM.mono (fun v σ42 h => ?_) (c_X1_compare (c := cost D y) (m := dm D) hq (by rw [mu_nef (by decide), mu_nef (by decide), hc, hck.1]) (by rw [hck.1, hl]) hm (hst.same (S := [43]) ((Same.mu (by simp)).tr (Same.mu (by simp))) (by decide) (by decide) (by decide)) rfl)
      obtain ⟨h1, h2⟩ := h
      refine ⟨fun h => by omega, fun _ => ?_⟩
      have h43 : σ42 43 = mu (mu σ 43 a s) 43 (p.idxOf s) (pg p a) 43 := h2 43 (by decide)
      refine ⟨?_, ?_, (((((Same.mu (by decide)).tr (Same.mu (by decide))).tr (h2.wk (by decide))).tr (Same.mu (by decide))).tr (Same.mu (by decide)))⟩
      · rw [ech]
        exact h1.same (S := [43]) ((Same.mu (by simp)).tr (Same.mu (by simp))) (by decide) (by decide) (by decide)
      · intro i hi
        rw [mu_at, mu_at, h43, mu_at, mu_at]
        by_cases q1 : i = p.idxOf s
        · subst q1
          rw [if_pos rfl]
          omega
        · rw [if_neg q1]
          by_cases q2 : i = a
          · subst q2
            rw [if_pos rfl, pg_eq hap]
          · rw [if_neg q2, if_neg q1, if_neg q2]
            exact hp i hi
    · have hps : pg p a = s := by
        have : p.idxOf s = a := by omega
        subst this
        rw [pg_eq hj, ej]
      have ech : chg p a s = none := by
        unfold chg
        rw [if_pos hs, if_pos hps]
      rw [ech]
      exact hst
  · rw [(whoF_mem hp s).mpr hs]
    have ech : chg p a s = some (p.set a s) := by
      unfold chg
      rw [if_neg hs]
    have hck := chg_ok hok hap hsn ech
    refine ⟨fun hne => ⟨fun _ => ?_, fun h => absurd rfl h⟩, fun he => by omega⟩
    have hq : hld (mu σ 43 a s) 43 (p.set a s) := hp.set hap s
    have hD2 : CD D (mu σ 43 a s) := hD.same (S := [43]) (Same.mu (by simp)) (by decide)
    refine CM.mono (fun v σ39 h => ?_) (c_X3_costOf (k := 41) hw hD2 seats41 hq (by rw [mu_nef (by decide), hc, hck.1]) (by rw [hck.1, hl]) hck.2 hy rfl)
    obtain ⟨rfl, rfl⟩ := h
    refine CM.mono (fun v σ42 h => ?_) (c_X1_compare (c := cost D y) (m := dm D) hq (by rw [mu_nef (by decide), hc, hck.1]) (by rw [hck.1, hl]) hm (hst.same (S := [43]) (Same.mu (by simp)) (by decide) (by decide) (by decide)) rfl)
    obtain ⟨h1, h2⟩ := h
    refine ⟨fun _ => ?_, fun h => absurd rfl h⟩
    have h43 : σ42 43 = mu σ 43 a s 43 := h2 43 (by decide)
    refine ⟨?_, ?_, (((Same.mu (by decide)).tr (h2.wk (by decide))).tr (Same.mu (by decide)))⟩
    · rw [ech]
      exact h1.same (S := [43]) (Same.mu (by simp)) (by decide) (by decide) (by decide)
    · intro i hi
      rw [mu_at, h43, mu_at]
      by_cases q2 : i = a
      · subst q2
        rw [if_pos rfl, pg_eq hap]
      · rw [if_neg q2, if_neg q2]
        exact hp i hi
set_option maxRecDepth 100000 in
theorem rX1_search_0 {x1 : Int} {k2 : Nat} (hk2 : isSeats k2) {σ : Mem} {Q : Int → Mem → Prop} (h : CM mX8_copy [.inr 41, .inr k2] σ (fun _ σ2 => CM mX3_costOf [.inr 27, .inl x1, .inr 41] σ2 (fun v4 σ5 => GO none mX1_search 31 [some (.inr 40), some (.inl x1), some (.inr k2), some (.inl 0), none] [] (mu (mu σ5 40 4 v4) 40 5 0) Q))) : CM mX1_search [.inr 40, .inl x1, .inr k2] σ Q := by
  refine CM_of_GO (by decide +kernel) rfl (Nat.le_of_ble_eq_true rfl) ?_
  show GO none mX1_search 0 [some (.inr 40), some (.inl x1), some (.inr k2), none, none] [] σ Q
  refine g_aload_n dX1_search_0 rfl rfl ?_
  refine g_getR (r' := 41) flX1_12 (by decide) rfl (by decide) rfl dX1_search_1 ?_
  refine g_aload_n dX1_search_4 rfl rfl ?_
  refine g_invVV (as := [.inr k2]) (rest := []) okX8_copy mlX1_37 (by decide) rfl ⟨_, _, rfl⟩ rfl ⟨Nat.le_of_ble_eq_true rfl, Nat.le_of_ble_eq_true rfl⟩ (Nat.le_of_ble_eq_true rfl) rfl dX1_search_5 h rfl (fun σ2 e3 => ?_)
  have h := e3
  refine g_aload_n dX1_search_8 rfl rfl ?_
  refine g_aload_n dX1_search_9 rfl rfl ?_
  refine g_getR (r' := 27) flX1_33 (by decide) rfl (by decide) rfl dX1_search_10 ?_
  refine g_iload_n dX1_search_13 rfl rfl ?_
  refine g_aload_n dX1_search_14 rfl rfl ?_
  refine g_getR (r' := 41) flX1_12 (by decide) rfl (by decide) rfl dX1_search_15 ?_
  refine g_invVI (as := [.inl x1, .inr 41]) (rest := [.inr 40]) okX3_costOf mlX1_41 (by decide) rfl ⟨_, _, rfl⟩ rfl ⟨Nat.le_of_ble_eq_true rfl, Nat.le_of_ble_eq_true rfl⟩ (Nat.le_of_ble_eq_true rfl) rfl dX1_search_18 h (Or.inl rfl) (fun v4 σ5 e6 => ?_)
  have h := e6
  refine g_putI fpX1_21 (by decide) rfl (by decide) rfl (Or.inl rfl) dX1_search_21 ?_
  refine g_aload_n dX1_search_24 rfl rfl ?_
  refine g_iconst dX1_search_25 (by decide) ?_
  refine g_putI fpX1_25 (by decide) rfl (by decide) rfl (Or.inr ⟨rfl, (by decide)⟩) dX1_search_26 ?_
  refine g_iconst dX1_search_29 (by decide) ?_
  refine g_istore_n (ls' := [some (.inr 40), some (.inl x1), some (.inr k2), some (.inl 0), none]) dX1_search_30 rfl (by decide) rfl ?_
  exact h
set_option maxRecDepth 100000 in
theorem rX1_search_31 {x1 x3 : Int} {k2 : Nat} (hk2 : isSeats k2) {σ : Mem} {Q : Int → Mem → Prop} (h : ((σ 41 1) ≤ x3 → (((σ 40 5) = 0 ∨ (σ 40 5) = 1) ∧ (Q (σ 40 5) σ))) ∧ (x3 < (σ 41 1) → GO none mX1_search 45 [some (.inr 40), some (.inl x1), some (.inr k2), some (.inl x3), some (.inl 0)] [] σ Q)) : GO none mX1_search 31 [some (.inr 40), some (.inl x1), some (.inr k2), some (.inl x3), none] [] σ Q := by
  refine g_iload_n dX1_search_31 rfl rfl ?_
  refine g_aload_n dX1_search_32 rfl rfl ?_
  refine g_getR (r' := 41) flX1_12 (by decide) rfl (by decide) rfl dX1_search_33 ?_
  refine g_invVI (as := []) (rest := [.inl x3]) okX8_shops mlX1_47 (by decide) rfl ⟨_, _, rfl⟩ rfl ⟨Nat.le_of_ble_eq_true rfl, Nat.le_of_ble_eq_true rfl⟩ (Nat.le_of_ble_eq_true rfl) rfl dX1_search_36 (c_X8_shops ⟨by decide, rfl, rfl, rfl, by decide, by decide, rfl, rfl, rfl⟩) (Or.inl rfl) (fun v1 σ2 e3 => ?_)
  obtain ⟨e3a, e3b⟩ := e3; subst v1; subst σ2
  refine g_icmp_ge (tgt := 77) dX1_search_39 (by decide) (fun c4 => ?_) (fun c4 => ?_)
  · have h := h.1 c4
    refine g_aload_n dX1_search_77 rfl rfl ?_
    refine g_getI flX1_25 (by decide) rfl (by decide) rfl dX1_search_78 ?_
    obtain ⟨p5, h⟩ := h
    exact g_zreturn rfl dX1_search_81 p5 h
  · have h := h.2 c4
    refine g_iconst dX1_search_42 (by decide) ?_
    refine g_istore (ls' := [some (.inr 40), some (.inl x1), some (.inr k2), some (.inl x3), some (.inl 0)]) dX1_search_43 (by decide) rfl ?_
    exact h
set_option maxRecDepth 100000 in
theorem rX1_search_45 {x1 x3 x4 : Int} {k2 : Nat} (hk2 : isSeats k2) {σ : Mem} {Q : Int → Mem → Prop} (h : ((σ 1 7) ≤ x4 → ((inR (x3 + 1)) ∧ (GO none mX1_search 31 [some (.inr 40), some (.inl x1), some (.inr k2), some (.inl (x3 + 1)), none] [] σ Q))) ∧ (x4 < (σ 1 7) → CM mX1_tryChange [.inr 40, .inl x1, .inl x3, .inl x4] σ (fun _ σ7 => ((inR (x4 + 1)) ∧ (GO none mX1_search 45 [some (.inr 40), some (.inl x1), some (.inr k2), some (.inl x3), some (.inl (x4 + 1))] [] σ7 Q))))) : GO none mX1_search 45 [some (.inr 40), some (.inl x1), some (.inr k2), some (.inl x3), some (.inl x4)] [] σ Q := by
  refine g_iload dX1_search_45 rfl ?_
  refine g_aload_n dX1_search_47 rfl rfl ?_
  refine g_getR (r' := 1) flX1_29 (by decide) rfl (by decide) rfl dX1_search_48 ?_
  refine g_invVI (as := []) (rest := [.inl x4]) okX2_slots mlX1_51 (by decide) rfl ⟨_, _, rfl⟩ rfl ⟨Nat.le_of_ble_eq_true rfl, Nat.le_of_ble_eq_true rfl⟩ (Nat.le_of_ble_eq_true rfl) rfl dX1_search_51 (c_X2_slots) (Or.inl rfl) (fun v1 σ2 e3 => ?_)
  obtain ⟨e3a, e3b⟩ := e3; subst v1; subst σ2
  refine g_icmp_ge (tgt := 71) dX1_search_54 (by decide) (fun c4 => ?_) (fun c4 => ?_)
  · have h := h.1 c4
    obtain ⟨p5, h⟩ := h
    refine g_iinc (ls' := [some (.inr 40), some (.inl x1), some (.inr k2), some (.inl (x3 + 1)), some (.inl x4)]) dX1_search_71 (by decide) rfl p5 rfl ?_
    refine g_goto (tgt := 31) dX1_search_74 (by decide) ?_
    refine g_kill (i := 4) (ls' := [some (.inr 40), some (.inl x1), some (.inr k2), some (.inl (x3 + 1)), none]) rfl ?_
    exact h
  · have h := h.2 c4
    refine g_aload_n dX1_search_57 rfl rfl ?_
    refine g_iload_n dX1_search_58 rfl rfl ?_
    refine g_iload_n dX1_search_59 rfl rfl ?_
    refine g_iload dX1_search_60 rfl ?_
    refine g_invVV (as := [.inl x1, .inl x3, .inl x4]) (rest := []) okX1_tryChange mlX1_56 (by decide) rfl ⟨_, _, rfl⟩ rfl ⟨Nat.le_of_ble_eq_true rfl, Nat.le_of_ble_eq_true rfl⟩ (Nat.le_of_ble_eq_true rfl) rfl dX1_search_62 h rfl (fun σ7 e8 => ?_)
    have h := e8
    obtain ⟨p9, h⟩ := h
    refine g_iinc (ls' := [some (.inr 40), some (.inl x1), some (.inr k2), some (.inl x3), some (.inl (x4 + 1))]) dX1_search_65 (by decide) rfl p9 rfl ?_
    refine g_goto (tgt := 45) dX1_search_68 (by decide) ?_
    exact h
theorem c_X1_search {D : Dt} {k y : Nat} {x1 : Int} {p : List Nat} {σ : Mem} (hw : WF D) (hD : CD D σ) (hk : isSeats k) (hk41 : k ≠ 41) (hp : hld σ (k + 2) p) (hc : σ k 1 = p.length) (hl : p.length = dm D) (hok : okP (dn D) p) (hy : y < 4) (e1 : x1 = y) : CM mX1_search [.inr 40, .inl x1, .inr k] σ (fun v σ1 => v = (if (fcS (cost D y) (dn D) p).2 = none then 0 else 1) ∧ clH (dm D) (fcS (cost D y) (dn D) p) σ1 ∧ Same [40, 41, 43, 44, 46] σ σ1) := by
  subst e1
  have hm := hw.2.1
  have hn := hw.1
  refine rX1_search_0 hk (CM.mono (fun v σ2 h => ?_) (c_X8_copy seats41 hk (Ne.symm hk41) hp hc (by omega)))
  obtain ⟨q1, q2, q3⟩ := h
  have hD2 := hD.same q3 (by decide)
  refine CM.mono (fun v σ5 h => ?_) (c_X3_costOf (k := 41) hw hD2 seats41 q2 q1 hl hok.1 hy rfl)
  obtain ⟨rfl, rfl⟩ := h
  have outer : ∀ (d a : Nat) (st : Int × Option (List Nat)) (σ0 : Mem), a + d = dm D → CD D σ0 → hld σ0 43 p → σ0 41 1 = p.length → clH (dm D) st σ0 → Same [40, 41, 43, 44, 46] σ σ0 → GO none mX1_search 31 [some (.inr 40), some (.inl (y : Int)), some (.inr k), some (.inl (a : Int)), none] [] σ0 (fun v σ1 => v = (if (chB (cost D y) p (dn D) a d st).2 = none then 0 else 1) ∧ clH (dm D) (chB (cost D y) p (dn D) a d st) σ1 ∧ Same [40, 41, 43, 44, 46] σ σ1) := by
    intro d
    induction d with
    | zero =>
      intro a st σ0 hd h1 h2 h3 h4 hS
      refine rX1_search_31 hk ⟨fun _ => ⟨?_, h4.2.1, h4, hS⟩, fun h => by omega⟩
      rw [h4.2.1]
      split
      · exact Or.inl rfl
      · exact Or.inr rfl
    | succ d ih =>
      intro a st σ0 hd h1 h2 h3 h4 hS
      refine rX1_search_31 hk ⟨fun h => by omega, fun _ => ?_⟩
      have inner : ∀ (e s : Nat) (st2 : Int × Option (List Nat)) (σ3 : Mem), s + e = dn D → CD D σ3 → hld σ3 43 p → σ3 41 1 = p.length → clH (dm D) st2 σ3 → Same [40, 41, 43, 44, 46] σ σ3 → GO none mX1_search 45 [some (.inr 40), some (.inl (y : Int)), some (.inr k), some (.inl (a : Int)), some (.inl (s : Int))] [] σ3 (fun v σ1 => v = (if (chB (cost D y) p (dn D) (a + 1) d (chA (cost D y) p a s e st2)).2 = none then 0 else 1) ∧ clH (dm D) (chB (cost D y) p (dn D) (a + 1) d (chA (cost D y) p a s e st2)) σ1 ∧ Same [40, 41, 43, 44, 46] σ σ1) := by
        intro e
        induction e with
        | zero =>
          intro s st2 σ3 hd2 g1 g2 g3 g4 gS
          exact rX1_search_45 hk ⟨fun _ => ⟨by omega, ih (a + 1) st2 σ3 (by omega) g1 g2 g3 g4 gS⟩, fun h => by rw [g1.1] at h; omega⟩
        | succ e ih2 =>
          intro s st2 σ3 hd2 g1 g2 g3 g4 gS
          refine rX1_search_45 hk ⟨fun h => by rw [g1.1] at h; omega, fun _ => ?_⟩
          refine CM.mono (fun v σ7 h => ?_) (c_X1_tryChange (a := a) (s := s) hw g1 g2 g3 hl hok (by omega) (by omega) g4 hy rfl rfl rfl)
          obtain ⟨r1, r2, r3⟩ := h
          exact ⟨by omega, ih2 (s + 1) _ σ7 (by omega) (g1.same r3 (by decide)) r2 (by rw [r3 41 (by decide)]; exact g3) r1 (gS.tr (r3.wk (by decide)))⟩
      exact inner (dn D) 0 st σ0 (by omega) h1 h2 h3 h4 hS
  have hS2 : Same [40, 41, 43, 44, 46] σ (mu (mu σ5 40 4 (cost D y p)) 40 5 0) := ((q3.wk (by decide)).tr (Same.mu (by decide))).tr (Same.mu (by decide))
  have := outer (dm D) 0 (cost D y p, none) (mu (mu σ5 40 4 (cost D y p)) 40 5 0) (by omega) (hD.same hS2 (by decide)) ((q2.cong (mu_nef (by decide))).cong (mu_nef (by decide))) (by rw [mu_nef (by decide), mu_nef (by decide)]; exact q1) ⟨by rw [mu_atn (by decide), mu_at, if_pos rfl], by rw [mu_at, if_pos rfl]; simp, fun r hr => by cases hr⟩ hS2
  unfold fcS
  rw [hl]
  exact this
