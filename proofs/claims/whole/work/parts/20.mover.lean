/-! ===== moves: the class's own reckoning, as functions ===== -/
def aswF (w : Nat → Int) (p q : List Nat) (start : Nat) : Nat → Nat → Int → Int
  | 0, _, _ => 0
  | f + 1, a, least => if pg p a = pg q a then 0 else if pg q a ∉ p then 0 else if p.idxOf (pg q a) = start then least else if p.idxOf (pg q a) < start then 0 else aswF w p q start f (p.idxOf (pg q a)) (if least ≤ w (p.idxOf (pg q a)) then least else w (p.idxOf (pg q a)))
def aswL (w : Nat → Int) (p q : List Nat) (a : Nat) : Int := aswF w p q a 5 a (w a)
def mvL (w : Nat → Int) (p q : List Nat) : Int := sumF (fun i => if pg p i = pg q i then 0 else w i) p.length
def lstF (w : Nat → Int) (n : Nat) (p q : List Nat) : Int := if 0 < mvL w p q ∧ n ≤ p.length then -1 else mvL w p q + sumF (aswL w p q) p.length
theorem mvW_L {w : Nat → Int} {σ : Mem} {k j : Nat} {p q : List Nat} (hp : hld σ k p) (hq : hld σ j q) (hl : q.length = p.length) : mvW w (σ k) (σ j) p.length = mvL w p q := by
  unfold mvW mvL
  refine sumF_cong (fun i hi => ?_)
  rw [hp.pg hi, hq.pg (by omega)]
  by_cases e : pg p i = pg q i
  · rw [if_pos (by omega), if_pos e]
  · rw [if_neg (by omega), if_neg e]
theorem mvL_bd {w : Nat → Int} {p q : List Nat} (h : ∀ i, i < p.length → 0 ≤ w i ∧ w i ≤ 50) : 0 ≤ mvL w p q ∧ mvL w p q ≤ p.length * 50 := by
  refine sumF_bd (fun i hi => ?_)
  have := h i hi
  by_cases e : pg p i = pg q i
  · simp only [if_pos e]; omega
  · simp only [if_neg e]; omega
theorem aswF_bd {w : Nat → Int} {p q : List Nat} {st : Nat} (h : ∀ i, i < p.length → 0 ≤ w i ∧ w i ≤ 50) : ∀ (f a : Nat) (least : Int), 0 ≤ least → least ≤ 50 → 0 ≤ aswF w p q st f a least ∧ aswF w p q st f a least ≤ 50
  | 0, a, least, h1, h2 => by unfold aswF; omega
  | f + 1, a, least, h1, h2 => by
    unfold aswF
    split
    · omega
    · split
      · omega
      · rename_i hm
        have hj : p.idxOf (pg q a) < p.length := List.idxOf_lt_length_of_mem (Classical.not_not.mp hm)
        have := h _ hj
        split
        · omega
        · split
          · omega
          · exact aswF_bd h f _ _ (by split <;> omega) (by split <;> omega)
set_option maxRecDepth 100000 in
theorem rX5_asideWeight_0 {x3 : Int} {k1 : Nat} (hk1 : isSeats k1) {k2 : Nat} (hk2 : isSeats k2) {σ : Mem} {Q : Int → Mem → Prop} (h : ((0 ≤ x3) ∧ (((x3 < 5) ∧ (GO none mX5_asideWeight 16 [some (.inr 47), some (.inr k1), some (.inr k2), some (.inl x3), some (.inl (σ 18 (x3).toNat)), some (.inl x3), some (.inl 0)] [] σ Q))))) : CM mX5_asideWeight [.inr 47, .inr k1, .inr k2, .inl x3] σ Q := by
  refine CM_of_GO (by decide +kernel) rfl (Nat.le_of_ble_eq_true rfl) ?_
  show GO none mX5_asideWeight 0 [some (.inr 47), some (.inr k1), some (.inr k2), some (.inl x3), none, none, none] [] σ Q
  refine g_aload_n dX5_asideWeight_0 rfl rfl ?_
  refine g_getR (r' := 14) flX5_22 (by decide) rfl (by decide) rfl dX5_asideWeight_1 ?_
  refine g_iload_n dX5_asideWeight_4 rfl rfl ?_
  obtain ⟨p1, h⟩ := h
  obtain ⟨p2, h⟩ := h
  refine g_invVI (as := [.inl x3]) (rest := []) okX9_weightOf mlX5_45 (by decide) rfl ⟨_, _, rfl⟩ rfl ⟨Nat.le_of_ble_eq_true rfl, Nat.le_of_ble_eq_true rfl⟩ (Nat.le_of_ble_eq_true rfl) rfl dX5_asideWeight_5 (c_X9_weightOf p1 p2) (Or.inl rfl) (fun v3 σ4 e5 => ?_)
  obtain ⟨e5a, e5b⟩ := e5; subst v3; subst σ4
  refine g_istore (ls' := [some (.inr 47), some (.inr k1), some (.inr k2), some (.inl x3), some (.inl (σ 18 (x3).toNat)), none, none]) dX5_asideWeight_8 (by decide) rfl ?_
  refine g_iload_n dX5_asideWeight_10 rfl rfl ?_
  refine g_istore (ls' := [some (.inr 47), some (.inr k1), some (.inr k2), some (.inl x3), some (.inl (σ 18 (x3).toNat)), some (.inl x3), none]) dX5_asideWeight_11 (by decide) rfl ?_
  refine g_iconst dX5_asideWeight_13 (by decide) ?_
  refine g_istore (ls' := [some (.inr 47), some (.inr k1), some (.inr k2), some (.inl x3), some (.inl (σ 18 (x3).toNat)), some (.inl x3), some (.inl 0)]) dX5_asideWeight_14 (by decide) rfl ?_
  exact h
set_option maxRecDepth 100000 in
theorem rX5_asideWeight_16 {x3 x4 x5 x6 : Int} {k1 : Nat} (hk1 : isSeats k1) {k2 : Nat} (hk2 : isSeats k2) {σ : Mem} {Q : Int → Mem → Prop} (h : (5 ≤ x6 → Q 0 σ) ∧ (x6 < 5 → ((0 ≤ x5) ∧ (((x5 < 5) ∧ (((σ (k1 + 2) (x5).toNat) ≠ (σ (k2 + 2) (x5).toNat) → (((σ k1 1) ≤ 5) ∧ (((whoF (σ (k1 + 2)) (σ (k2 + 2) (x5).toNat) 0 ((σ k1 1)).toNat) ≠ x3 → ((whoF (σ (k1 + 2)) (σ (k2 + 2) (x5).toNat) 0 ((σ k1 1)).toNat) = (-1) → Q 0 σ) ∧ ((whoF (σ (k1 + 2)) (σ (k2 + 2) (x5).toNat) 0 ((σ k1 1)).toNat) ≠ (-1) → (x3 ≤ (whoF (σ (k1 + 2)) (σ (k2 + 2) (x5).toNat) 0 ((σ k1 1)).toNat) → ((0 ≤ (whoF (σ (k1 + 2)) (σ (k2 + 2) (x5).toNat) 0 ((σ k1 1)).toNat)) ∧ ((((whoF (σ (k1 + 2)) (σ (k2 + 2) (x5).toNat) 0 ((σ k1 1)).toNat) < 5) ∧ (((inR (x6 + 1)) ∧ (GO none mX5_asideWeight 16 [some (.inr 47), some (.inr k1), some (.inr k2), some (.inl x3), some (.inl (if x4 ≤ (σ 18 ((whoF (σ (k1 + 2)) (σ (k2 + 2) (x5).toNat) 0 ((σ k1 1)).toNat)).toNat) then x4 else (σ 18 ((whoF (σ (k1 + 2)) (σ (k2 + 2) (x5).toNat) 0 ((σ k1 1)).toNat)).toNat))), some (.inl (whoF (σ (k1 + 2)) (σ (k2 + 2) (x5).toNat) 0 ((σ k1 1)).toNat)), some (.inl (x6 + 1))] [] σ Q))))))) ∧ ((whoF (σ (k1 + 2)) (σ (k2 + 2) (x5).toNat) 0 ((σ k1 1)).toNat) < x3 → Q 0 σ))) ∧ ((whoF (σ (k1 + 2)) (σ (k2 + 2) (x5).toNat) 0 ((σ k1 1)).toNat) = x3 → Q x4 σ)))) ∧ ((σ (k1 + 2) (x5).toNat) = (σ (k2 + 2) (x5).toNat) → Q 0 σ))))))) : GO none mX5_asideWeight 16 [some (.inr 47), some (.inr k1), some (.inr k2), some (.inl x3), some (.inl x4), some (.inl x5), some (.inl x6)] [] σ Q := by
  refine g_iload dX5_asideWeight_16 rfl ?_
  refine g_iconst dX5_asideWeight_18 (by decide) ?_
  refine g_icmp_ge (tgt := 100) dX5_asideWeight_19 (by decide) (fun c1 => ?_) (fun c1 => ?_)
  · have h := h.1 c1
    refine g_iconst dX5_asideWeight_100 (by decide) ?_
    exact g_ireturn rfl dX5_asideWeight_101 h
  · have h := h.2 c1
    refine g_aload_n dX5_asideWeight_22 rfl rfl ?_
    refine g_iload dX5_asideWeight_23 rfl ?_
    obtain ⟨p2, h⟩ := h
    obtain ⟨p3, h⟩ := h
    refine g_invVI (as := [.inl x5]) (rest := []) okX8_at mlX5_49 hk1.1 hk1.2.1 ⟨_, _, rfl⟩ rfl ⟨Nat.le_of_ble_eq_true rfl, Nat.le_of_ble_eq_true rfl⟩ (Nat.le_of_ble_eq_true rfl) rfl dX5_asideWeight_25 (c_X8_at hk1 p2 p3) (Or.inl rfl) (fun v4 σ5 e6 => ?_)
    obtain ⟨e6a, e6b⟩ := e6; subst v4; subst σ5
    refine g_aload_n dX5_asideWeight_28 rfl rfl ?_
    refine g_iload dX5_asideWeight_29 rfl ?_
    refine g_invVI (as := [.inl x5]) (rest := [.inl (σ (k1 + 2) (x5).toNat)]) okX8_at mlX5_49 hk2.1 hk2.2.1 ⟨_, _, rfl⟩ rfl ⟨Nat.le_of_ble_eq_true rfl, Nat.le_of_ble_eq_true rfl⟩ (Nat.le_of_ble_eq_true rfl) rfl dX5_asideWeight_31 (c_X8_at hk2 p2 p3) (Or.inl rfl) (fun v7 σ8 e9 => ?_)
    obtain ⟨e9a, e9b⟩ := e9; subst v7; subst σ8
    refine g_icmp_ne (tgt := 39) dX5_asideWeight_34 (by decide) (fun c10 => ?_) (fun c10 => ?_)
    · have h := h.1 c10
      refine g_aload_n dX5_asideWeight_39 rfl rfl ?_
      refine g_aload_n dX5_asideWeight_40 rfl rfl ?_
      refine g_iload dX5_asideWeight_41 rfl ?_
      refine g_invVI (as := [.inl x5]) (rest := [.inr k1]) okX8_at mlX5_49 hk2.1 hk2.2.1 ⟨_, _, rfl⟩ rfl ⟨Nat.le_of_ble_eq_true rfl, Nat.le_of_ble_eq_true rfl⟩ (Nat.le_of_ble_eq_true rfl) rfl dX5_asideWeight_43 (c_X8_at hk2 p2 p3) (Or.inl rfl) (fun v11 σ12 e13 => ?_)
      obtain ⟨e13a, e13b⟩ := e13; subst v11; subst σ12
      refine g_aload_n dX5_asideWeight_46 rfl rfl ?_
      refine g_invVI (as := []) (rest := [.inl (σ (k2 + 2) (x5).toNat), .inr k1]) okX8_shops mlX5_38 hk1.1 hk1.2.1 ⟨_, _, rfl⟩ rfl ⟨Nat.le_of_ble_eq_true rfl, Nat.le_of_ble_eq_true rfl⟩ (Nat.le_of_ble_eq_true rfl) rfl dX5_asideWeight_47 (c_X8_shops hk1) (Or.inl rfl) (fun v14 σ15 e16 => ?_)
      obtain ⟨e16a, e16b⟩ := e16; subst v14; subst σ15
      obtain ⟨p17, h⟩ := h
      refine g_invVI (as := [.inl (σ (k2 + 2) (x5).toNat), .inl (σ k1 1)]) (rest := []) okX8_whoIsAt mlX5_52 hk1.1 hk1.2.1 ⟨_, _, rfl⟩ rfl ⟨Nat.le_of_ble_eq_true rfl, Nat.le_of_ble_eq_true rfl⟩ (Nat.le_of_ble_eq_true rfl) rfl dX5_asideWeight_50 (c_X8_whoIsAt hk1 p17) (Or.inl rfl) (fun v18 σ19 e20 => ?_)
      obtain ⟨e20a, e20b⟩ := e20; subst v18; subst σ19
      refine g_istore (ls' := [some (.inr 47), some (.inr k1), some (.inr k2), some (.inl x3), some (.inl x4), some (.inl (whoF (σ (k1 + 2)) (σ (k2 + 2) (x5).toNat) 0 ((σ k1 1)).toNat)), some (.inl x6)]) dX5_asideWeight_53 (by decide) rfl ?_
      refine g_iload dX5_asideWeight_55 rfl ?_
      refine g_iload_n dX5_asideWeight_57 rfl rfl ?_
      refine g_icmp_ne (tgt := 64) dX5_asideWeight_58 (by decide) (fun c21 => ?_) (fun c21 => ?_)
      · have h := h.1 c21
        refine g_iload dX5_asideWeight_64 rfl ?_
        refine g_iconst dX5_asideWeight_66 (by decide) ?_
        refine g_icmp_eq (tgt := 76) dX5_asideWeight_67 (by decide) (fun c22 => ?_) (fun c22 => ?_)
        · have h := h.1 c22
          refine g_iconst dX5_asideWeight_76 (by decide) ?_
          exact g_ireturn rfl dX5_asideWeight_77 h
        · have h := h.2 c22
          refine g_iload dX5_asideWeight_70 rfl ?_
          refine g_iload_n dX5_asideWeight_72 rfl rfl ?_
          refine g_icmp_ge (tgt := 78) dX5_asideWeight_73 (by decide) (fun c23 => ?_) (fun c23 => ?_)
          · have h := h.1 c23
            refine g_iload dX5_asideWeight_78 rfl ?_
            refine g_aload_n dX5_asideWeight_80 rfl rfl ?_
            refine g_getR (r' := 14) flX5_22 (by decide) rfl (by decide) rfl dX5_asideWeight_81 ?_
            refine g_iload dX5_asideWeight_84 rfl ?_
            obtain ⟨p24, h⟩ := h
            obtain ⟨p25, h⟩ := h
            refine g_invVI (as := [.inl (whoF (σ (k1 + 2)) (σ (k2 + 2) (x5).toNat) 0 ((σ k1 1)).toNat)]) (rest := [.inl x4]) okX9_weightOf mlX5_45 (by decide) rfl ⟨_, _, rfl⟩ rfl ⟨Nat.le_of_ble_eq_true rfl, Nat.le_of_ble_eq_true rfl⟩ (Nat.le_of_ble_eq_true rfl) rfl dX5_asideWeight_86 (c_X9_weightOf p24 p25) (Or.inl rfl) (fun v26 σ27 e28 => ?_)
            obtain ⟨e28a, e28b⟩ := e28; subst v26; subst σ27
            refine g_min mlX5_56 min_s min_i min_c (by decide) (Nat.le_of_ble_eq_true rfl) dX5_asideWeight_89 ?_
            refine g_istore (ls' := [some (.inr 47), some (.inr k1), some (.inr k2), some (.inl x3), some (.inl (if x4 ≤ (σ 18 ((whoF (σ (k1 + 2)) (σ (k2 + 2) (x5).toNat) 0 ((σ k1 1)).toNat)).toNat) then x4 else (σ 18 ((whoF (σ (k1 + 2)) (σ (k2 + 2) (x5).toNat) 0 ((σ k1 1)).toNat)).toNat))), some (.inl (whoF (σ (k1 + 2)) (σ (k2 + 2) (x5).toNat) 0 ((σ k1 1)).toNat)), some (.inl x6)]) dX5_asideWeight_92 (by decide) rfl ?_
            obtain ⟨p29, h⟩ := h
            refine g_iinc (ls' := [some (.inr 47), some (.inr k1), some (.inr k2), some (.inl x3), some (.inl (if x4 ≤ (σ 18 ((whoF (σ (k1 + 2)) (σ (k2 + 2) (x5).toNat) 0 ((σ k1 1)).toNat)).toNat) then x4 else (σ 18 ((whoF (σ (k1 + 2)) (σ (k2 + 2) (x5).toNat) 0 ((σ k1 1)).toNat)).toNat))), some (.inl (whoF (σ (k1 + 2)) (σ (k2 + 2) (x5).toNat) 0 ((σ k1 1)).toNat)), some (.inl (x6 + 1))]) dX5_asideWeight_94 (by decide) rfl p29 rfl ?_
            refine g_goto (tgt := 16) dX5_asideWeight_97 (by decide) ?_
            exact h
          · have h := h.2 c23
            refine g_iconst dX5_asideWeight_76 (by decide) ?_
            exact g_ireturn rfl dX5_asideWeight_77 h
      · have h := h.2 c21
        refine g_iload dX5_asideWeight_61 rfl ?_
        exact g_ireturn rfl dX5_asideWeight_63 h
    · have h := h.2 c10
      refine g_iconst dX5_asideWeight_37 (by decide) ?_
      exact g_ireturn rfl dX5_asideWeight_38 h
theorem c_X5_asideWeight {w : Nat → Int} {k j a : Nat} {x3 : Int} {p q : List Nat} {σ : Mem} (hk : isSeats k) (hj : isSeats j) (hw : σ 18 = w) (hp : hld σ (k + 2) p) (hq : hld σ (j + 2) q) (hc : σ k 1 = p.length) (hl : q.length = p.length) (h5 : p.length ≤ 5) (hnd : p.Nodup) (ha : a < p.length) (ex : x3 = a) : CM mX5_asideWeight [.inr 47, .inr k, .inr j, .inl x3] σ (fun v σ1 => v = aswL w p q a ∧ σ1 = σ) := by
  subst ex
  have key : ∀ (f b : Nat) (least : Int), f ≤ 5 → b < p.length → GO none mX5_asideWeight 16 [some (.inr 47), some (.inr k), some (.inr j), some (.inl (a : Int)), some (.inl least), some (.inl (b : Int)), some (.inl ((5 - f : Nat) : Int))] [] σ (fun v σ1 => v = aswF w p q a f b least ∧ σ1 = σ) := by
    intro f
    induction f with
    | zero =>
      intro b least hf hb
      exact rX5_asideWeight_16 hk hj ⟨fun _ => ⟨rfl, rfl⟩, fun h => by omega⟩
    | succ f ih =>
      intro b least hf hb
      refine rX5_asideWeight_16 hk hj ⟨fun h => by omega, fun _ => ⟨by omega, by omega, ?_⟩⟩
      rw [Int.toNat_natCast, hp.pg hb, hq.pg (show b < q.length by omega), hc, Int.toNat_natCast]
      unfold aswF
      refine ⟨fun h1 => ⟨by omega, ?_⟩, fun h1 => ⟨by rw [if_pos (by omega)], rfl⟩⟩
      rw [if_neg (by omega)]
      by_cases hm : pg q b ∈ p
      · rw [whoF_idx hp hnd hm, if_neg (fun z => z hm)]
        have hjl : p.idxOf (pg q b) < p.length := List.idxOf_lt_length_of_mem hm
        refine ⟨fun h2 => ⟨fun h3 => by omega, fun _ => ⟨fun h3 => ⟨by omega, by omega, by omega, ?_⟩, fun h3 => ⟨?_, rfl⟩⟩⟩, fun h2 => ⟨?_, rfl⟩⟩
        · have e1 : (if p.idxOf (pg q b) = a then least else if p.idxOf (pg q b) < a then 0 else aswF w p q a f (p.idxOf (pg q b)) (if least ≤ w (p.idxOf (pg q b)) then least else w (p.idxOf (pg q b)))) = aswF w p q a f (p.idxOf (pg q b)) (if least ≤ w (p.idxOf (pg q b)) then least else w (p.idxOf (pg q b))) := by
            rw [if_neg (by omega), if_neg (by omega)]
          rw [e1, Int.toNat_natCast, hw]
          have := ih (p.idxOf (pg q b)) (if least ≤ w (p.idxOf (pg q b)) then least else w (p.idxOf (pg q b))) (by omega) hjl
          rw [show ((5 - f : Nat) : Int) = ((5 - (f + 1) : Nat) : Int) + 1 by omega] at this
          exact this
        · rw [if_neg (by omega), if_pos (by omega)]
        · rw [if_pos (by omega)]
      · rw [(whoF_mem hp _).mpr hm, if_pos hm]
        exact ⟨fun h2 => ⟨fun _ => ⟨rfl, rfl⟩, fun h3 => absurd rfl h3⟩, fun h2 => by omega⟩
  have h0 := key 5 a (w a) (by omega) ha
  refine rX5_asideWeight_0 hk hj ⟨by omega, by omega, ?_⟩
  rw [Int.toNat_natCast, hw]
  exact h0
set_option maxRecDepth 100000 in
theorem rX5_least_0 {k1 : Nat} (hk1 : isSeats k1) {k2 : Nat} (hk2 : isSeats k2) {σ : Mem} {Q : Int → Mem → Prop} (h : CM mX9_movedWeight [.inr 14, .inr k1, .inr k2] σ (fun v1 σ2 => (v1 ≤ 0 → GO none mX5_least 33 [some (.inr 47), some (.inr k1), some (.inr k2), some (.inl v1), some (.inl 0)] [] σ2 Q) ∧ (0 < v1 → ((σ2 k1 1) < (σ2 1 7) → GO none mX5_least 33 [some (.inr 47), some (.inr k1), some (.inr k2), some (.inl v1), some (.inl 0)] [] σ2 Q) ∧ ((σ2 1 7) ≤ (σ2 k1 1) → Q (-1) σ2)))) : CM mX5_least [.inr 47, .inr k1, .inr k2] σ Q := by
  refine CM_of_GO (by decide +kernel) rfl (Nat.le_of_ble_eq_true rfl) ?_
  show GO none mX5_least 0 [some (.inr 47), some (.inr k1), some (.inr k2), none, none] [] σ Q
  refine g_aload_n dX5_least_0 rfl rfl ?_
  refine g_getR (r' := 14) flX5_22 (by decide) rfl (by decide) rfl dX5_least_1 ?_
  refine g_aload_n dX5_least_4 rfl rfl ?_
  refine g_aload_n dX5_least_5 rfl rfl ?_
  refine g_invVI (as := [.inr k1, .inr k2]) (rest := []) okX9_movedWeight mlX5_26 (by decide) rfl ⟨_, _, rfl⟩ rfl ⟨Nat.le_of_ble_eq_true rfl, Nat.le_of_ble_eq_true rfl⟩ (Nat.le_of_ble_eq_true rfl) rfl dX5_least_6 h (Or.inl rfl) (fun v1 σ2 e3 => ?_)
  have h := e3
  refine g_istore_n (ls' := [some (.inr 47), some (.inr k1), some (.inr k2), some (.inl v1), none]) dX5_least_9 rfl (by decide) rfl ?_
  refine g_iload_n dX5_least_10 rfl rfl ?_
  refine g_if_le (tgt := 30) dX5_least_11 (by decide) (fun c4 => ?_) (fun c4 => ?_)
  · have h := h.1 c4
    refine g_iconst dX5_least_30 (by decide) ?_
    refine g_istore (ls' := [some (.inr 47), some (.inr k1), some (.inr k2), some (.inl v1), some (.inl 0)]) dX5_least_31 (by decide) rfl ?_
    exact h
  · have h := h.2 c4
    refine g_aload_n dX5_least_14 rfl rfl ?_
    refine g_getR (r' := 1) flX5_18 (by decide) rfl (by decide) rfl dX5_least_15 ?_
    refine g_invVI (as := []) (rest := []) okX2_slots mlX5_32 (by decide) rfl ⟨_, _, rfl⟩ rfl ⟨Nat.le_of_ble_eq_true rfl, Nat.le_of_ble_eq_true rfl⟩ (Nat.le_of_ble_eq_true rfl) rfl dX5_least_18 (c_X2_slots) (Or.inl rfl) (fun v5 σ6 e7 => ?_)
    obtain ⟨e7a, e7b⟩ := e7; subst v5; subst σ6
    refine g_aload_n dX5_least_21 rfl rfl ?_
    refine g_invVI (as := []) (rest := [.inl (σ2 1 7)]) okX8_shops mlX5_38 hk1.1 hk1.2.1 ⟨_, _, rfl⟩ rfl ⟨Nat.le_of_ble_eq_true rfl, Nat.le_of_ble_eq_true rfl⟩ (Nat.le_of_ble_eq_true rfl) rfl dX5_least_22 (c_X8_shops hk1) (Or.inl rfl) (fun v8 σ9 e10 => ?_)
    obtain ⟨e10a, e10b⟩ := e10; subst v8; subst σ9
    refine g_icmp_gt (tgt := 30) dX5_least_25 (by decide) (fun c11 => ?_) (fun c11 => ?_)
    · have h := h.1 c11
      refine g_iconst dX5_least_30 (by decide) ?_
      refine g_istore (ls' := [some (.inr 47), some (.inr k1), some (.inr k2), some (.inl v1), some (.inl 0)]) dX5_least_31 (by decide) rfl ?_
      exact h
    · have h := h.2 c11
      refine g_iconst dX5_least_28 (by decide) ?_
      exact g_ireturn rfl dX5_least_29 h
set_option maxRecDepth 100000 in
theorem rX5_least_33 {x3 x4 : Int} {k1 : Nat} (hk1 : isSeats k1) {k2 : Nat} (hk2 : isSeats k2) {σ : Mem} {Q : Int → Mem → Prop} (h : ((σ k1 1) ≤ x4 → Q x3 σ) ∧ (x4 < (σ k1 1) → CM mX5_asideWeight [.inr 47, .inr k1, .inr k2, .inl x4] σ (fun v5 σ6 => ((inR (x3 + v5)) ∧ (((inR (x4 + 1)) ∧ (GO none mX5_least 33 [some (.inr 47), some (.inr k1), some (.inr k2), some (.inl (x3 + v5)), some (.inl (x4 + 1))] [] σ6 Q))))))) : GO none mX5_least 33 [some (.inr 47), some (.inr k1), some (.inr k2), some (.inl x3), some (.inl x4)] [] σ Q := by
  refine g_iload dX5_least_33 rfl ?_
  refine g_aload_n dX5_least_35 rfl rfl ?_
  refine g_invVI (as := []) (rest := [.inl x4]) okX8_shops mlX5_38 hk1.1 hk1.2.1 ⟨_, _, rfl⟩ rfl ⟨Nat.le_of_ble_eq_true rfl, Nat.le_of_ble_eq_true rfl⟩ (Nat.le_of_ble_eq_true rfl) rfl dX5_least_36 (c_X8_shops hk1) (Or.inl rfl) (fun v1 σ2 e3 => ?_)
  obtain ⟨e3a, e3b⟩ := e3; subst v1; subst σ2
  refine g_icmp_ge (tgt := 59) dX5_least_39 (by decide) (fun c4 => ?_) (fun c4 => ?_)
  · have h := h.1 c4
    refine g_iload_n dX5_least_59 rfl rfl ?_
    exact g_ireturn rfl dX5_least_60 h
  · have h := h.2 c4
    refine g_iload_n dX5_least_42 rfl rfl ?_
    refine g_aload_n dX5_least_43 rfl rfl ?_
    refine g_aload_n dX5_least_44 rfl rfl ?_
    refine g_aload_n dX5_least_45 rfl rfl ?_
    refine g_iload dX5_least_46 rfl ?_
    refine g_invVI (as := [.inr k1, .inr k2, .inl x4]) (rest := [.inl x3]) okX5_asideWeight mlX5_41 (by decide) rfl ⟨_, _, rfl⟩ rfl ⟨Nat.le_of_ble_eq_true rfl, Nat.le_of_ble_eq_true rfl⟩ (Nat.le_of_ble_eq_true rfl) rfl dX5_least_48 h (Or.inl rfl) (fun v5 σ6 e7 => ?_)
    have h := e7
    obtain ⟨p8, h⟩ := h
    refine g_iadd dX5_least_51 p8 ?_
    refine g_istore_n (ls' := [some (.inr 47), some (.inr k1), some (.inr k2), some (.inl (x3 + v5)), some (.inl x4)]) dX5_least_52 rfl (by decide) rfl ?_
    obtain ⟨p9, h⟩ := h
    refine g_iinc (ls' := [some (.inr 47), some (.inr k1), some (.inr k2), some (.inl (x3 + v5)), some (.inl (x4 + 1))]) dX5_least_53 (by decide) rfl p9 rfl ?_
    refine g_goto (tgt := 33) dX5_least_56 (by decide) ?_
    exact h
theorem c_X5_least {D : Dt} {k j : Nat} {p q : List Nat} {σ : Mem} (hw : WF D) (hD : CD D σ) (hk : isSeats k) (hj : isSeats j) (hp : hld σ (k + 2) p) (hq : hld σ (j + 2) q) (hc : σ k 1 = p.length) (hlp : p.length = dm D) (hlq : q.length = dm D) (hnd : p.Nodup) : CM mX5_least [.inr 47, .inr k, .inr j] σ (fun v σ1 => v = lstF (dV D) (dn D) p q ∧ σ1 = σ) := by
  have hm := hw.2.1
  have hwt : ∀ i, i < p.length → 0 ≤ dV D i ∧ dV D i ≤ 50 := fun i hi => hw.2.2.2.2.2.2.2.2.1 i (by omega)
  have e18 : σ 18 = dV D := hD.2.2.2.2.2.2.1
  have hb := mvL_bd (w := dV D) (p := p) (q := q) hwt
  have hsum : ∀ i, i ≤ p.length → 0 ≤ sumF (aswL (dV D) p q) i ∧ sumF (aswL (dV D) p q) i ≤ i * 50 := fun i hi => sumF_bd (fun a ha => aswF_bd hwt 5 a _ (hwt a (by omega)).1 (hwt a (by omega)).2)
  refine rX5_least_0 hk hj (CM.mono (fun v σ2 h => ?_) (c_X9_movedWeight (m := p.length) hk hj (by rw [hD.2.1, hlp]) (by omega) (fun i hi => by rw [e18]; exact hwt i hi)))
  obtain ⟨rfl, rfl⟩ := h
  rw [e18, mvW_L hp hq (by omega), hD.1, hc]
  have key : ¬ (0 < mvL (dV D) p q ∧ dn D ≤ p.length) → ∀ (d i : Nat), i + d = p.length → GO none mX5_least 33 [some (.inr 47), some (.inr k), some (.inr j), some (.inl (mvL (dV D) p q + sumF (aswL (dV D) p q) i)), some (.inl (i : Int))] [] σ2 (fun v σ1 => v = lstF (dV D) (dn D) p q ∧ σ1 = σ2) := by
    intro hno d
    induction d with
    | zero =>
      intro i hd
      refine rX5_least_33 hk hj ⟨fun _ => ⟨?_, rfl⟩, fun h => by omega⟩
      unfold lstF
      rw [if_neg hno, show i = p.length by omega]
    | succ d ih =>
      intro i hd
      refine rX5_least_33 hk hj ⟨fun h => by omega, fun _ => ?_⟩
      refine CM.mono (fun v σ6 h => ?_) (c_X5_asideWeight (a := i) hk hj e18 hp hq hc (by omega) (by omega) hnd (by omega) rfl)
      obtain ⟨rfl, rfl⟩ := h
      have s1 := hsum i (by omega)
      have s2 := hsum (i + 1) (by omega)
      have s3 : sumF (aswL (dV D) p q) (i + 1) = sumF (aswL (dV D) p q) i + aswL (dV D) p q i := rfl
      refine ⟨by omega, by omega, ?_⟩
      have := ih (i + 1) (by omega)
      rw [s3, ← Int.add_assoc] at this
      exact this
  refine ⟨fun h => ?_, fun h => ⟨fun h2 => ?_, fun h2 => ⟨?_, rfl⟩⟩⟩
  · have := key (by omega) p.length 0 (by omega)
    rw [show sumF (aswL (dV D) p q) 0 = 0 from rfl, Int.add_zero] at this
    exact this
  · have := key (by omega) p.length 0 (by omega)
    rw [show sumF (aswL (dV D) p q) 0 = 0 from rfl, Int.add_zero] at this
    exact this
  · unfold lstF
    rw [if_pos (by omega)]
theorem lstF_bd {w : Nat → Int} {n : Nat} {p q : List Nat} (hwt : ∀ i, i < p.length → 0 ≤ w i ∧ w i ≤ 50) (h5 : p.length ≤ 5) : -1 ≤ lstF w n p q ∧ lstF w n p q ≤ 500 := by
  have hb := mvL_bd (q := q) hwt
  have hsum := sumF_bd (f := aswL w p q) (c := 50) (n := p.length) (fun a ha => aswF_bd hwt 5 a _ (hwt a (by omega)).1 (hwt a (by omega)).2)
  unfold lstF
  split <;> omega
/-- the first step of a least move: shop and slot -/
def fsS (w : Nat → Int) (n : Nat) (p q : List Nat) (whole : Int) (a : Nat) : Nat → Nat → Option (Nat × Nat)
  | _, 0 => none
  | s, d + 1 => if s ∉ p ∧ lstF w n (p.set a s) q = whole - w a then some (a, s) else fsS w n p q whole a (s + 1) d
def fsA (w : Nat → Int) (n : Nat) (p q : List Nat) (whole : Int) : Nat → Nat → Option (Nat × Nat)
  | _, 0 => none
  | a, d + 1 => match fsS w n p q whole a 0 n with
    | some r => some r
    | none => fsA w n p q whole (a + 1) d
def fstF (w : Nat → Int) (n : Nat) (p q : List Nat) : Option (Nat × Nat) := if lstF w n p q ≤ 0 then none else fsA w n p q (lstF w n p q) 0 p.length
def wkF (w : Nat → Int) (n : Nat) (q : List Nat) : Nat → List Nat → Int
  | 0, p => match fstF w n p q with
    | some r => 10 * (r.1 : Int) + (r.2 : Int)
    | none => -1
  | i + 1, p => match fstF w n p q with
    | some r => wkF w n q i (p.set r.1 r.2)
    | none => -1
theorem set_ok {n a s : Nat} {p : List Nat} (hp : okP n p) (hs : s < n) (hm : s ∉ p) : okP n (p.set a s) := by
  refine ⟨fun t ht => ?_, ?_⟩
  · rcases List.mem_or_eq_of_mem_set ht with q | q
    · exact hp.1 t q
    · rw [q]; exact hs
  · have h := hp.2
    clear hp
    induction p generalizing a with
    | nil => simp
    | cons t p ih =>
      have h2 := List.nodup_cons.mp h
      cases a with
      | zero =>
        rw [List.set_cons_zero, List.nodup_cons]
        exact ⟨fun q => hm (List.mem_cons_of_mem _ q), h2.2⟩
      | succ a =>
        rw [List.set_cons_succ, List.nodup_cons]
        refine ⟨fun q => ?_, ih (fun q => hm (List.mem_cons_of_mem _ q)) h2.2⟩
        rcases List.mem_or_eq_of_mem_set q with q | q
        · exact h2.1 q
        · exact hm (by rw [q]; exact List.mem_cons_self)
theorem fsS_ok {w : Nat → Int} {n : Nat} {p q : List Nat} {wh : Int} {a : Nat} : ∀ {d s : Nat} {r : Nat × Nat}, fsS w n p q wh a s d = some r → r.1 = a ∧ s ≤ r.2 ∧ r.2 < s + d ∧ r.2 ∉ p ∧ lstF w n (p.set a r.2) q = wh - w a
  | 0, s, r, h => by cases h
  | d + 1, s, r, h => by
    unfold fsS at h
    split at h
    · rename_i hc
      cases h
      exact ⟨rfl, Nat.le_refl _, by omega, hc.1, hc.2⟩
    · have := fsS_ok h
      exact ⟨this.1, by omega, by omega, this.2.2.2.1, this.2.2.2.2⟩
theorem fsA_ok {w : Nat → Int} {n : Nat} {p q : List Nat} {wh : Int} : ∀ {d a : Nat} {r : Nat × Nat}, fsA w n p q wh a d = some r → a ≤ r.1 ∧ r.1 < a + d ∧ r.2 < n ∧ r.2 ∉ p ∧ lstF w n (p.set r.1 r.2) q = wh - w r.1
  | 0, a, r, h => by cases h
  | d + 1, a, r, h => by
    unfold fsA at h
    cases e : fsS w n p q wh a 0 n with
    | some r2 =>
      rw [e] at h
      cases h
      have := fsS_ok e
      rw [← this.1] at *
      exact ⟨Nat.le_refl _, by omega, by omega, this.2.2.2.1, this.2.2.2.2⟩
    | none =>
      rw [e] at h
      have := fsA_ok h
      exact ⟨by omega, by omega, this.2.2.1, this.2.2.2.1, this.2.2.2.2⟩
theorem fstF_ok {w : Nat → Int} {n : Nat} {p q : List Nat} {r : Nat × Nat} (h : fstF w n p q = some r) : r.1 < p.length ∧ r.2 < n ∧ r.2 ∉ p := by
  unfold fstF at h
  split at h
  · cases h
  · have := fsA_ok h
    exact ⟨by omega, this.2.2.1, this.2.2.2.1⟩
def seats48 : isSeats 48 := ⟨by decide, rfl, rfl, rfl, by decide, by decide, rfl, rfl, rfl⟩
set_option maxRecDepth 100000 in
theorem rX5_firstStep_0 {k1 : Nat} (hk1 : isSeats k1) {σ : Mem} {Q : Int → Mem → Prop} (h : CM mX5_least [.inr 47, .inr 48, .inr k1] σ (fun v1 σ2 => (0 < v1 → GO none mX5_firstStep 18 [some (.inr 47), some (.inr k1), some (.inl v1), some (.inl 0), none, none, none] [] σ2 Q) ∧ (v1 ≤ 0 → Q (-1) σ2))) : CM mX5_firstStep [.inr 47, .inr k1] σ Q := by
  refine CM_of_GO (by decide +kernel) rfl (Nat.le_of_ble_eq_true rfl) ?_
  show GO none mX5_firstStep 0 [some (.inr 47), some (.inr k1), none, none, none, none, none] [] σ Q
  refine g_aload_n dX5_firstStep_0 rfl rfl ?_
  refine g_aload_n dX5_firstStep_1 rfl rfl ?_
  refine g_getR (r' := 48) flX5_12 (by decide) rfl (by decide) rfl dX5_firstStep_2 ?_
  refine g_aload_n dX5_firstStep_5 rfl rfl ?_
  refine g_invVI (as := [.inr 48, .inr k1]) (rest := []) okX5_least mlX5_69 (by decide) rfl ⟨_, _, rfl⟩ rfl ⟨Nat.le_of_ble_eq_true rfl, Nat.le_of_ble_eq_true rfl⟩ (Nat.le_of_ble_eq_true rfl) rfl dX5_firstStep_6 h (Or.inl rfl) (fun v1 σ2 e3 => ?_)
  have h := e3
  refine g_istore_n (ls' := [some (.inr 47), some (.inr k1), some (.inl v1), none, none, none, none]) dX5_firstStep_9 rfl (by decide) rfl ?_
  refine g_iload_n dX5_firstStep_10 rfl rfl ?_
  refine g_if_gt (tgt := 16) dX5_firstStep_11 (by decide) (fun c4 => ?_) (fun c4 => ?_)
  · have h := h.1 c4
    refine g_iconst dX5_firstStep_16 (by decide) ?_
    refine g_istore_n (ls' := [some (.inr 47), some (.inr k1), some (.inl v1), some (.inl 0), none, none, none]) dX5_firstStep_17 rfl (by decide) rfl ?_
    exact h
  · have h := h.2 c4
    refine g_iconst dX5_firstStep_14 (by decide) ?_
    exact g_ireturn rfl dX5_firstStep_15 h
set_option maxRecDepth 100000 in
theorem rX5_firstStep_18 {x2 x3 : Int} {k1 : Nat} (hk1 : isSeats k1) {σ : Mem} {Q : Int → Mem → Prop} (h : ((σ 48 1) ≤ x3 → Q (-1) σ) ∧ (x3 < (σ 48 1) → ((0 ≤ x3) ∧ (((x3 < 5) ∧ (((inR (x2 - (σ 18 (x3).toNat))) ∧ (GO none mX5_firstStep 54 [some (.inr 47), some (.inr k1), some (.inl x2), some (.inl x3), some (.inl (x2 - (σ 18 (x3).toNat))), some (.inl (σ 50 (x3).toNat)), some (.inl 0)] [] σ Q)))))))) : GO none mX5_firstStep 18 [some (.inr 47), some (.inr k1), some (.inl x2), some (.inl x3), none, none, none] [] σ Q := by
  refine g_iload_n dX5_firstStep_18 rfl rfl ?_
  refine g_aload_n dX5_firstStep_19 rfl rfl ?_
  refine g_getR (r' := 48) flX5_12 (by decide) rfl (by decide) rfl dX5_firstStep_20 ?_
  refine g_invVI (as := []) (rest := [.inl x3]) okX8_shops mlX5_38 (by decide) rfl ⟨_, _, rfl⟩ rfl ⟨Nat.le_of_ble_eq_true rfl, Nat.le_of_ble_eq_true rfl⟩ (Nat.le_of_ble_eq_true rfl) rfl dX5_firstStep_23 (c_X8_shops ⟨by decide, rfl, rfl, rfl, by decide, by decide, rfl, rfl, rfl⟩) (Or.inl rfl) (fun v1 σ2 e3 => ?_)
  obtain ⟨e3a, e3b⟩ := e3; subst v1; subst σ2
  refine g_icmp_ge (tgt := 140) dX5_firstStep_26 (by decide) (fun c4 => ?_) (fun c4 => ?_)
  · have h := h.1 c4
    refine g_iconst dX5_firstStep_140 (by decide) ?_
    exact g_ireturn rfl dX5_firstStep_141 h
  · have h := h.2 c4
    refine g_iload_n dX5_firstStep_29 rfl rfl ?_
    refine g_aload_n dX5_firstStep_30 rfl rfl ?_
    refine g_getR (r' := 14) flX5_22 (by decide) rfl (by decide) rfl dX5_firstStep_31 ?_
    refine g_iload_n dX5_firstStep_34 rfl rfl ?_
    obtain ⟨p5, h⟩ := h
    obtain ⟨p6, h⟩ := h
    refine g_invVI (as := [.inl x3]) (rest := [.inl x2]) okX9_weightOf mlX5_45 (by decide) rfl ⟨_, _, rfl⟩ rfl ⟨Nat.le_of_ble_eq_true rfl, Nat.le_of_ble_eq_true rfl⟩ (Nat.le_of_ble_eq_true rfl) rfl dX5_firstStep_35 (c_X9_weightOf p5 p6) (Or.inl rfl) (fun v7 σ8 e9 => ?_)
    obtain ⟨e9a, e9b⟩ := e9; subst v7; subst σ8
    obtain ⟨p10, h⟩ := h
    refine g_isub dX5_firstStep_38 p10 ?_
    refine g_istore (ls' := [some (.inr 47), some (.inr k1), some (.inl x2), some (.inl x3), some (.inl (x2 - (σ 18 (x3).toNat))), none, none]) dX5_firstStep_39 (by decide) rfl ?_
    refine g_aload_n dX5_firstStep_41 rfl rfl ?_
    refine g_getR (r' := 48) flX5_12 (by decide) rfl (by decide) rfl dX5_firstStep_42 ?_
    refine g_iload_n dX5_firstStep_45 rfl rfl ?_
    refine g_invVI (as := [.inl x3]) (rest := []) okX8_at mlX5_49 (by decide) rfl ⟨_, _, rfl⟩ rfl ⟨Nat.le_of_ble_eq_true rfl, Nat.le_of_ble_eq_true rfl⟩ (Nat.le_of_ble_eq_true rfl) rfl dX5_firstStep_46 (c_X8_at ⟨by decide, rfl, rfl, rfl, by decide, by decide, rfl, rfl, rfl⟩ p5 p6) (Or.inl rfl) (fun v11 σ12 e13 => ?_)
    obtain ⟨e13a, e13b⟩ := e13; subst v11; subst σ12
    refine g_istore (ls' := [some (.inr 47), some (.inr k1), some (.inl x2), some (.inl x3), some (.inl (x2 - (σ 18 (x3).toNat))), some (.inl (σ 50 (x3).toNat)), none]) dX5_firstStep_49 (by decide) rfl ?_
    refine g_iconst dX5_firstStep_51 (by decide) ?_
    refine g_istore (ls' := [some (.inr 47), some (.inr k1), some (.inl x2), some (.inl x3), some (.inl (x2 - (σ 18 (x3).toNat))), some (.inl (σ 50 (x3).toNat)), some (.inl 0)]) dX5_firstStep_52 (by decide) rfl ?_
    exact h
set_option maxRecDepth 100000 in
theorem rX5_firstStep_54 {x2 x3 x4 x5 x6 : Int} {k1 : Nat} (hk1 : isSeats k1) {σ : Mem} {Q : Int → Mem → Prop} (h : ((σ 1 7) ≤ x6 → ((inR (x3 + 1)) ∧ (GO none mX5_firstStep 18 [some (.inr 47), some (.inr k1), some (.inl x2), some (.inl (x3 + 1)), none, none, none] [] σ Q))) ∧ (x6 < (σ 1 7) → (((σ 48 1) ≤ 5) ∧ (((whoF (σ 50) x6 0 ((σ 48 1)).toNat) ≠ (-1) → ((inR (x6 + 1)) ∧ (GO none mX5_firstStep 54 [some (.inr 47), some (.inr k1), some (.inl x2), some (.inl x3), some (.inl x4), some (.inl x5), some (.inl (x6 + 1))] [] σ Q))) ∧ ((whoF (σ 50) x6 0 ((σ 48 1)).toNat) = (-1) → ((0 ≤ x3) ∧ (((x3 < 5) ∧ (CM mX5_least [.inr 47, .inr 48, .inr k1] (mu σ 50 (x3).toNat x6) (fun v20 σ21 => (v20 ≠ x4 → ((inR (x6 + 1)) ∧ (GO none mX5_firstStep 54 [some (.inr 47), some (.inr k1), some (.inl x2), some (.inl x3), some (.inl x4), some (.inl x5), some (.inl (x6 + 1))] [] (mu σ21 50 (x3).toNat x5) Q))) ∧ (v20 = x4 → ((inR (10 * x3)) ∧ (((inR ((10 * x3) + x6)) ∧ (Q ((10 * x3) + x6) σ21))))))))))))))) : GO none mX5_firstStep 54 [some (.inr 47), some (.inr k1), some (.inl x2), some (.inl x3), some (.inl x4), some (.inl x5), some (.inl x6)] [] σ Q := by
  refine g_iload dX5_firstStep_54 rfl ?_
  refine g_aload_n dX5_firstStep_56 rfl rfl ?_
  refine g_getR (r' := 1) flX5_18 (by decide) rfl (by decide) rfl dX5_firstStep_57 ?_
  refine g_invVI (as := []) (rest := [.inl x6]) okX2_slots mlX5_32 (by decide) rfl ⟨_, _, rfl⟩ rfl ⟨Nat.le_of_ble_eq_true rfl, Nat.le_of_ble_eq_true rfl⟩ (Nat.le_of_ble_eq_true rfl) rfl dX5_firstStep_60 (c_X2_slots) (Or.inl rfl) (fun v1 σ2 e3 => ?_)
  obtain ⟨e3a, e3b⟩ := e3; subst v1; subst σ2
  refine g_icmp_ge (tgt := 134) dX5_firstStep_63 (by decide) (fun c4 => ?_) (fun c4 => ?_)
  · have h := h.1 c4
    obtain ⟨p5, h⟩ := h
    refine g_iinc (ls' := [some (.inr 47), some (.inr k1), some (.inl x2), some (.inl (x3 + 1)), some (.inl x4), some (.inl x5), some (.inl x6)]) dX5_firstStep_134 (by decide) rfl p5 rfl ?_
    refine g_goto (tgt := 18) dX5_firstStep_137 (by decide) ?_
    refine g_kill (i := 4) (ls' := [some (.inr 47), some (.inr k1), some (.inl x2), some (.inl (x3 + 1)), none, some (.inl x5), some (.inl x6)]) rfl ?_
    refine g_kill (i := 5) (ls' := [some (.inr 47), some (.inr k1), some (.inl x2), some (.inl (x3 + 1)), none, none, some (.inl x6)]) rfl ?_
    refine g_kill (i := 6) (ls' := [some (.inr 47), some (.inr k1), some (.inl x2), some (.inl (x3 + 1)), none, none, none]) rfl ?_
    exact h
  · have h := h.2 c4
    refine g_aload_n dX5_firstStep_66 rfl rfl ?_
    refine g_getR (r' := 48) flX5_12 (by decide) rfl (by decide) rfl dX5_firstStep_67 ?_
    refine g_iload dX5_firstStep_70 rfl ?_
    refine g_aload_n dX5_firstStep_72 rfl rfl ?_
    refine g_getR (r' := 48) flX5_12 (by decide) rfl (by decide) rfl dX5_firstStep_73 ?_
    refine g_invVI (as := []) (rest := [.inl x6, .inr 48]) okX8_shops mlX5_38 (by decide) rfl ⟨_, _, rfl⟩ rfl ⟨Nat.le_of_ble_eq_true rfl, Nat.le_of_ble_eq_true rfl⟩ (Nat.le_of_ble_eq_true rfl) rfl dX5_firstStep_76 (c_X8_shops ⟨by decide, rfl, rfl, rfl, by decide, by decide, rfl, rfl, rfl⟩) (Or.inl rfl) (fun v6 σ7 e8 => ?_)
    obtain ⟨e8a, e8b⟩ := e8; subst v6; subst σ7
    obtain ⟨p9, h⟩ := h
    refine g_invVI (as := [.inl x6, .inl (σ 48 1)]) (rest := []) okX8_whoIsAt mlX5_52 (by decide) rfl ⟨_, _, rfl⟩ rfl ⟨Nat.le_of_ble_eq_true rfl, Nat.le_of_ble_eq_true rfl⟩ (Nat.le_of_ble_eq_true rfl) rfl dX5_firstStep_79 (c_X8_whoIsAt ⟨by decide, rfl, rfl, rfl, by decide, by decide, rfl, rfl, rfl⟩ p9) (Or.inl rfl) (fun v10 σ11 e12 => ?_)
    obtain ⟨e12a, e12b⟩ := e12; subst v10; subst σ11
    refine g_iconst dX5_firstStep_82 (by decide) ?_
    refine g_icmp_ne (tgt := 128) dX5_firstStep_83 (by decide) (fun c13 => ?_) (fun c13 => ?_)
    · have h := h.1 c13
      obtain ⟨p14, h⟩ := h
      refine g_iinc (ls' := [some (.inr 47), some (.inr k1), some (.inl x2), some (.inl x3), some (.inl x4), some (.inl x5), some (.inl (x6 + 1))]) dX5_firstStep_128 (by decide) rfl p14 rfl ?_
      refine g_goto (tgt := 54) dX5_firstStep_131 (by decide) ?_
      exact h
    · have h := h.2 c13
      refine g_aload_n dX5_firstStep_86 rfl rfl ?_
      refine g_getR (r' := 48) flX5_12 (by decide) rfl (by decide) rfl dX5_firstStep_87 ?_
      refine g_iload_n dX5_firstStep_90 rfl rfl ?_
      refine g_iload dX5_firstStep_91 rfl ?_
      obtain ⟨p15, h⟩ := h
      obtain ⟨p16, h⟩ := h
      refine g_invVV (as := [.inl x3, .inl x6]) (rest := []) okX8_seat mlX5_72 (by decide) rfl ⟨_, _, rfl⟩ rfl ⟨Nat.le_of_ble_eq_true rfl, Nat.le_of_ble_eq_true rfl⟩ (Nat.le_of_ble_eq_true rfl) rfl dX5_firstStep_93 (c_X8_seat ⟨by decide, rfl, rfl, rfl, by decide, by decide, rfl, rfl, rfl⟩ p15 p16) rfl (fun σ18 e19 => ?_)
      subst σ18
      refine g_aload_n dX5_firstStep_96 rfl rfl ?_
      refine g_aload_n dX5_firstStep_97 rfl rfl ?_
      refine g_getR (r' := 48) flX5_12 (by decide) rfl (by decide) rfl dX5_firstStep_98 ?_
      refine g_aload_n dX5_firstStep_101 rfl rfl ?_
      refine g_invVI (as := [.inr 48, .inr k1]) (rest := []) okX5_least mlX5_69 (by decide) rfl ⟨_, _, rfl⟩ rfl ⟨Nat.le_of_ble_eq_true rfl, Nat.le_of_ble_eq_true rfl⟩ (Nat.le_of_ble_eq_true rfl) rfl dX5_firstStep_102 h (Or.inl rfl) (fun v20 σ21 e22 => ?_)
      have h := e22
      refine g_iload dX5_firstStep_105 rfl ?_
      refine g_icmp_ne (tgt := 118) dX5_firstStep_107 (by decide) (fun c23 => ?_) (fun c23 => ?_)
      · have h := h.1 c23
        refine g_aload_n dX5_firstStep_118 rfl rfl ?_
        refine g_getR (r' := 48) flX5_12 (by decide) rfl (by decide) rfl dX5_firstStep_119 ?_
        refine g_iload_n dX5_firstStep_122 rfl rfl ?_
        refine g_iload dX5_firstStep_123 rfl ?_
        refine g_invVV (as := [.inl x3, .inl x5]) (rest := []) okX8_seat mlX5_72 (by decide) rfl ⟨_, _, rfl⟩ rfl ⟨Nat.le_of_ble_eq_true rfl, Nat.le_of_ble_eq_true rfl⟩ (Nat.le_of_ble_eq_true rfl) rfl dX5_firstStep_125 (c_X8_seat ⟨by decide, rfl, rfl, rfl, by decide, by decide, rfl, rfl, rfl⟩ p15 p16) rfl (fun σ25 e26 => ?_)
        subst σ25
        obtain ⟨p27, h⟩ := h
        refine g_iinc (ls' := [some (.inr 47), some (.inr k1), some (.inl x2), some (.inl x3), some (.inl x4), some (.inl x5), some (.inl (x6 + 1))]) dX5_firstStep_128 (by decide) rfl p27 rfl ?_
        refine g_goto (tgt := 54) dX5_firstStep_131 (by decide) ?_
        exact h
      · have h := h.2 c23
        refine g_bipush dX5_firstStep_110 (by decide) (by decide) ?_
        refine g_iload_n dX5_firstStep_112 rfl rfl ?_
        obtain ⟨p28, h⟩ := h
        refine g_imul dX5_firstStep_113 p28 ?_
        refine g_iload dX5_firstStep_114 rfl ?_
        obtain ⟨p29, h⟩ := h
        refine g_iadd dX5_firstStep_116 p29 ?_
        exact g_ireturn rfl dX5_firstStep_117 h
theorem c_X5_firstStep {D : Dt} {j : Nat} {p q : List Nat} {σ : Mem} (hw : WF D) (hD : CD D σ) (hj : isSeats j) (hj48 : j ≠ 48) (hp : hld σ 50 p) (hq : hld σ (j + 2) q) (hc : σ 48 1 = p.length) (hlp : p.length = dm D) (hlq : q.length = dm D) (hok : okP (dn D) p) : CM mX5_firstStep [.inr 47, .inr j] σ (fun v σ1 => (match fstF (dV D) (dn D) p q with
    | some r => v = 10 * (r.1 : Int) + (r.2 : Int) ∧ hld σ1 50 (p.set r.1 r.2)
    | none => v = -1 ∧ hld σ1 50 p) ∧ Same [50] σ σ1) := by
  have hm := hw.2.1
  have hn := hw.1
  have hwt : ∀ i, i < 5 → 0 ≤ dV D i ∧ dV D i ≤ 50 := fun i hi => hw.2.2.2.2.2.2.2.2.1 i hi
  have n1 := seats_ne hj seats48
  have hbw := lstF_bd (w := dV D) (n := dn D) (p := p) (q := q) (fun i hi => hwt i (by omega)) (by omega)
  refine rX5_firstStep_0 hj (CM.mono (fun v σ2 h => ?_) (c_X5_least (k := 48) hw hD seats48 hj hp hq hc hlp hlq hok.2))
  obtain ⟨rfl, rfl⟩ := h
  refine ⟨fun hpos => ?_, fun hle => ⟨?_, Same.rf⟩⟩
  · have e0 : fstF (dV D) (dn D) p q = fsA (dV D) (dn D) p q (lstF (dV D) (dn D) p q) 0 p.length := by
      unfold fstF
      rw [if_neg (by omega)]
    rw [e0]
    have outer : ∀ (d a : Nat) (σ0 : Mem), a + d = p.length → hld σ0 50 p → Same [50] σ2 σ0 → GO none mX5_firstStep 18 [some (.inr 47), some (.inr j), some (.inl (lstF (dV D) (dn D) p q)), some (.inl (a : Int)), none, none, none] [] σ0 (fun v σ1 => (match fsA (dV D) (dn D) p q (lstF (dV D) (dn D) p q) a d with
    | some r => v = 10 * (r.1 : Int) + (r.2 : Int) ∧ hld σ1 50 (p.set r.1 r.2)
    | none => v = -1 ∧ hld σ1 50 p) ∧ Same [50] σ2 σ1) := by
      intro d
      induction d with
      | zero =>
        intro a σ0 hd h1 hS
        have ec : σ0 48 1 = p.length := by rw [hS 48 (by decide)]; exact hc
        exact rX5_firstStep_18 hj ⟨fun _ => ⟨⟨rfl, h1⟩, hS⟩, fun h => by omega⟩
      | succ d ih =>
        intro a σ0 hd h1 hS
        have ec : σ0 48 1 = p.length := by rw [hS 48 (by decide)]; exact hc
        have e18 : σ0 18 = dV D := by rw [hS 18 (by decide)]; exact hD.2.2.2.2.2.2.1
        have hwa := hwt a (by omega)
        refine rX5_firstStep_18 hj ⟨fun h => by omega, fun _ => ⟨by omega, by omega, ?_⟩⟩
        rw [Int.toNat_natCast, e18, h1.pg (show a < p.length by omega)]
        refine ⟨by omega, ?_⟩
        have inner : ∀ (d2 s : Nat) (σ3 : Mem), s + d2 = dn D → hld σ3 50 p → Same [50] σ2 σ3 → GO none mX5_firstStep 54 [some (.inr 47), some (.inr j), some (.inl (lstF (dV D) (dn D) p q)), some (.inl (a : Int)), some (.inl (lstF (dV D) (dn D) p q - dV D a)), some (.inl (pg p a : Int)), some (.inl (s : Int))] [] σ3 (fun v σ1 => (match (match fsS (dV D) (dn D) p q (lstF (dV D) (dn D) p q) a s d2 with
      | some r => some r
      | none => fsA (dV D) (dn D) p q (lstF (dV D) (dn D) p q) (a + 1) d) with
    | some r => v = 10 * (r.1 : Int) + (r.2 : Int) ∧ hld σ1 50 (p.set r.1 r.2)
    | none => v = -1 ∧ hld σ1 50 p) ∧ Same [50] σ2 σ1) := by
          intro d2
          induction d2 with
          | zero =>
            intro s σ3 hd2 g1 gS
            have en : σ3 1 7 = dn D := by rw [gS 1 (by decide)]; exact hD.1
            refine rX5_firstStep_54 hj ⟨fun _ => ⟨by omega, ih (a + 1) σ3 (by omega) g1 gS⟩, fun h => by omega⟩
          | succ d2 ih2 =>
            intro s σ3 hd2 g1 gS
            have en : σ3 1 7 = dn D := by rw [gS 1 (by decide)]; exact hD.1
            have ec3 : σ3 48 1 = p.length := by rw [gS 48 (by decide)]; exact hc
            refine rX5_firstStep_54 hj ⟨fun h => by omega, fun _ => ?_⟩
            rw [ec3, Int.toNat_natCast, Int.toNat_natCast]
            refine ⟨by omega, fun h2 => ⟨by omega, ?_⟩, fun h2 => ⟨by omega, by omega, ?_⟩⟩
            · have hmem : s ∈ p := Classical.not_not.mp (fun q => h2 ((whoF_mem g1 s).mpr q))
              have := ih2 (s + 1) σ3 (by omega) g1 gS
              unfold fsS
              rw [if_neg (fun q => q.1 hmem)]
              exact this
            · have hmem : s ∉ p := (whoF_mem g1 s).mp h2
              have hset := g1.set (i := a) (show a < p.length by omega) s
              have hS4 : Same [50] σ2 (mu σ3 50 a s) := gS.tr (Same.mu (by decide))
              refine CM.mono (fun v σ21 h => ?_) (c_X5_least (k := 48) hw (hD.same hS4 (by decide)) seats48 hj hset (hq.cong (hS4 (j + 2) (by simp; omega))) (by rw [hS4 48 (by decide), hc, List.length_set]) (by rw [List.length_set]; exact hlp) hlq (set_ok hok (by omega) hmem).2)
              obtain ⟨rfl, rfl⟩ := h
              refine ⟨fun h3 => ⟨by omega, ?_⟩, fun h3 => ⟨by omega, by omega, ?_⟩⟩
              · have := ih2 (s + 1) (mu (mu σ3 50 a s) 50 a (pg p a)) (by omega) (fun i hi => by
                  rw [mu_at, mu_at]
                  by_cases q : i = a
                  · subst q; rw [if_pos rfl, pg_eq hi]
                  · rw [if_neg q, if_neg q]; exact g1 i hi) (hS4.tr (Same.mu (by decide)))
                unfold fsS
                rw [if_neg (fun q => h3 q.2)]
                exact this
              · unfold fsS
                rw [if_pos ⟨hmem, h3⟩]
                exact ⟨⟨rfl, hset⟩, hS4⟩
        have := inner (dn D) 0 σ0 (by omega) h1 hS
        unfold fsA
        exact this
    exact outer p.length 0 σ2 (by omega) hp Same.rf
  · have e0 : fstF (dV D) (dn D) p q = none := by
      unfold fstF
      rw [if_pos hle]
    rw [e0]
    exact ⟨rfl, hp⟩
set_option maxRecDepth 100000 in
theorem rX5_walk_0 {x3 : Int} {k1 : Nat} (hk1 : isSeats k1) {k2 : Nat} (hk2 : isSeats k2) {σ : Mem} {Q : Int → Mem → Prop} (h : (x3 < 7 → CM mX8_copy [.inr 48, .inr k1] σ (fun _ σ3 => CM mX5_firstStep [.inr 47, .inr k2] σ3 (fun v5 σ6 => GO none mX5_walk 26 [some (.inr 47), some (.inr k1), some (.inr k2), some (.inl x3), some (.inl v5), some (.inl 0)] [] σ6 Q))) ∧ (7 ≤ x3 → Q (-1) σ)) : CM mX5_walk [.inr 47, .inr k1, .inr k2, .inl x3] σ Q := by
  refine CM_of_GO (by decide +kernel) rfl (Nat.le_of_ble_eq_true rfl) ?_
  show GO none mX5_walk 0 [some (.inr 47), some (.inr k1), some (.inr k2), some (.inl x3), none, none] [] σ Q
  refine g_iload_n dX5_walk_0 rfl rfl ?_
  refine g_bipush dX5_walk_1 (by decide) (by decide) ?_
  refine g_icmp_lt (tgt := 8) dX5_walk_3 (by decide) (fun c1 => ?_) (fun c1 => ?_)
  · have h := h.1 c1
    refine g_aload_n dX5_walk_8 rfl rfl ?_
    refine g_getR (r' := 48) flX5_12 (by decide) rfl (by decide) rfl dX5_walk_9 ?_
    refine g_aload_n dX5_walk_12 rfl rfl ?_
    refine g_invVV (as := [.inr k1]) (rest := []) okX8_copy mlX5_61 (by decide) rfl ⟨_, _, rfl⟩ rfl ⟨Nat.le_of_ble_eq_true rfl, Nat.le_of_ble_eq_true rfl⟩ (Nat.le_of_ble_eq_true rfl) rfl dX5_walk_13 h rfl (fun σ3 e4 => ?_)
    have h := e4
    refine g_aload_n dX5_walk_16 rfl rfl ?_
    refine g_aload_n dX5_walk_17 rfl rfl ?_
    refine g_invVI (as := [.inr k2]) (rest := []) okX5_firstStep mlX5_65 (by decide) rfl ⟨_, _, rfl⟩ rfl ⟨Nat.le_of_ble_eq_true rfl, Nat.le_of_ble_eq_true rfl⟩ (Nat.le_of_ble_eq_true rfl) rfl dX5_walk_18 h (Or.inl rfl) (fun v5 σ6 e7 => ?_)
    have h := e7
    refine g_istore (ls' := [some (.inr 47), some (.inr k1), some (.inr k2), some (.inl x3), some (.inl v5), none]) dX5_walk_21 (by decide) rfl ?_
    refine g_iconst dX5_walk_23 (by decide) ?_
    refine g_istore (ls' := [some (.inr 47), some (.inr k1), some (.inr k2), some (.inl x3), some (.inl v5), some (.inl 0)]) dX5_walk_24 (by decide) rfl ?_
    exact h
  · have h := h.2 c1
    refine g_iconst dX5_walk_6 (by decide) ?_
    exact g_ireturn rfl dX5_walk_7 h
set_option maxRecDepth 100000 in
theorem rX5_walk_26 {x3 x4 x5 : Int} {k1 : Nat} (hk1 : isSeats k1) {k2 : Nat} (hk2 : isSeats k2) {σ : Mem} {Q : Int → Mem → Prop} (h : (x3 ≤ x5 → Q x4 σ) ∧ (x5 < x3 → (x4 = (-1) → Q x4 σ) ∧ (x4 ≠ (-1) → CM mX5_firstStep [.inr 47, .inr k2] σ (fun v3 σ4 => ((inR (x5 + 1)) ∧ (GO none mX5_walk 26 [some (.inr 47), some (.inr k1), some (.inr k2), some (.inl x3), some (.inl v3), some (.inl (x5 + 1))] [] σ4 Q)))))) : GO none mX5_walk 26 [some (.inr 47), some (.inr k1), some (.inr k2), some (.inl x3), some (.inl x4), some (.inl x5)] [] σ Q := by
  refine g_iload dX5_walk_26 rfl ?_
  refine g_iload_n dX5_walk_28 rfl rfl ?_
  refine g_icmp_ge (tgt := 51) dX5_walk_29 (by decide) (fun c1 => ?_) (fun c1 => ?_)
  · have h := h.1 c1
    refine g_iload dX5_walk_51 rfl ?_
    exact g_ireturn rfl dX5_walk_53 h
  · have h := h.2 c1
    refine g_iload dX5_walk_32 rfl ?_
    refine g_iconst dX5_walk_34 (by decide) ?_
    refine g_icmp_eq (tgt := 51) dX5_walk_35 (by decide) (fun c2 => ?_) (fun c2 => ?_)
    · have h := h.1 c2
      refine g_iload dX5_walk_51 rfl ?_
      exact g_ireturn rfl dX5_walk_53 h
    · have h := h.2 c2
      refine g_aload_n dX5_walk_38 rfl rfl ?_
      refine g_aload_n dX5_walk_39 rfl rfl ?_
      refine g_invVI (as := [.inr k2]) (rest := []) okX5_firstStep mlX5_65 (by decide) rfl ⟨_, _, rfl⟩ rfl ⟨Nat.le_of_ble_eq_true rfl, Nat.le_of_ble_eq_true rfl⟩ (Nat.le_of_ble_eq_true rfl) rfl dX5_walk_40 h (Or.inl rfl) (fun v3 σ4 e5 => ?_)
      have h := e5
      refine g_istore (ls' := [some (.inr 47), some (.inr k1), some (.inr k2), some (.inl x3), some (.inl v3), some (.inl x5)]) dX5_walk_43 (by decide) rfl ?_
      obtain ⟨p6, h⟩ := h
      refine g_iinc (ls' := [some (.inr 47), some (.inr k1), some (.inr k2), some (.inl x3), some (.inl v3), some (.inl (x5 + 1))]) dX5_walk_45 (by decide) rfl p6 rfl ?_
      refine g_goto (tgt := 26) dX5_walk_48 (by decide) ?_
      exact h
theorem c_X5_walk {D : Dt} {k j : Nat} {x3 : Int} {p q : List Nat} {σ : Mem} (hw : WF D) (hD : CD D σ) (hk : isSeats k) (hj : isSeats j) (hk48 : k ≠ 48) (hj48 : j ≠ 48) (hp : hld σ (k + 2) p) (hq : hld σ (j + 2) q) (hc : σ k 1 = p.length) (hlp : p.length = dm D) (hlq : q.length = dm D) (hok : okP (dn D) p) (h0 : 0 ≤ x3) : CM mX5_walk [.inr 47, .inr k, .inr j, .inl x3] σ (fun v σ1 => v = (if 7 ≤ x3 then -1 else wkF (dV D) (dn D) q x3.toNat p) ∧ Same [48, 50] σ σ1) := by
  have hm := hw.2.1
  have n1 := seats_ne hj seats48
  have n2 := seats_ne seats48 hj
  refine rX5_walk_0 hk hj ⟨fun h7 => ?_, fun h7 => ⟨by rw [if_pos h7], Same.rf⟩⟩
  rw [if_neg (by omega)]
  refine CM.mono (fun v σ3 h => ?_) (c_X8_copy seats48 hk (Ne.symm hk48) hp hc (by omega))
  obtain ⟨q1, q2, q3⟩ := h
  have step : ∀ (p0 : List Nat) (σ0 : Mem), hld σ0 50 p0 → p0.length = dm D → okP (dn D) p0 → Same [48, 50] σ σ0 → σ0 48 1 = dm D → CM mX5_firstStep [.inr 47, .inr j] σ0 (fun v σ1 => (match fstF (dV D) (dn D) p0 q with
    | some r => v = 10 * (r.1 : Int) + (r.2 : Int) ∧ hld σ1 50 (p0.set r.1 r.2)
    | none => v = -1 ∧ hld σ1 50 p0) ∧ Same [50] σ0 σ1) := fun p0 σ0 g1 g2 g3 gS gc => c_X5_firstStep hw (hD.same gS (by decide)) hj hj48 g1 (hq.cong (gS (j + 2) (by simp; omega))) (by rw [gc, g2]) g2 hlq g3
  refine CM.mono (fun v σ6 h => ?_) (step p σ3 q2 hlp hok (q3.wk (by decide)) (by rw [q1, hlp]))
  obtain ⟨h1, h2⟩ := h
  have hS6 : Same [48, 50] σ σ6 := (q3.wk (by decide)).tr (h2.wk (by decide))
  have hc6 : σ6 48 1 = dm D := by rw [h2 48 (by decide), q1, hlp]
  -- the loop: told v, the places behind that step in the trial, i - g steps still to go
  have key : ∀ (d g : Nat) (v : Int) (p0 : List Nat) (σ0 : Mem), (g : Int) + d = x3 → p0.length = dm D → okP (dn D) p0 → Same [48, 50] σ σ0 → σ0 48 1 = dm D → (match fstF (dV D) (dn D) p0 q with
    | some r => v = 10 * (r.1 : Int) + (r.2 : Int) ∧ hld σ0 50 (p0.set r.1 r.2)
    | none => v = -1 ∧ hld σ0 50 p0) → GO none mX5_walk 26 [some (.inr 47), some (.inr k), some (.inr j), some (.inl x3), some (.inl v), some (.inl (g : Int))] [] σ0 (fun v σ1 => v = wkF (dV D) (dn D) q d p0 ∧ Same [48, 50] σ σ1) := by
    intro d
    induction d with
    | zero =>
      intro g v p0 σ0 hd g2 g3 gS gc hm0
      refine rX5_walk_26 hk hj ⟨fun _ => ⟨?_, gS⟩, fun h => by omega⟩
      unfold wkF
      cases e : fstF (dV D) (dn D) p0 q with
      | some r => rw [e] at hm0; exact hm0.1
      | none => rw [e] at hm0; exact hm0.1
    | succ d ih =>
      intro g v p0 σ0 hd g2 g3 gS gc hm0
      refine rX5_walk_26 hk hj ⟨fun h => by omega, fun _ => ⟨fun hv => ⟨?_, gS⟩, fun hv => ?_⟩⟩
      · unfold wkF
        cases e : fstF (dV D) (dn D) p0 q with
        | some r => rw [e] at hm0; omega
        | none => exact hv
      · cases e : fstF (dV D) (dn D) p0 q with
        | some r =>
          rw [e] at hm0
          have hr := fstF_ok e
          have hok2 := set_ok (a := r.1) g3 hr.2.1 hr.2.2
          have hl2 : (p0.set r.1 r.2).length = dm D := by rw [List.length_set]; exact g2
          refine CM.mono (fun v4 σ4 h => ?_) (step _ σ0 hm0.2 hl2 hok2 gS gc)
          obtain ⟨t1, t2⟩ := h
          refine ⟨by omega, ?_⟩
          have := ih (g + 1) v4 _ σ4 (by omega) hl2 hok2 (gS.tr (t2.wk (by decide))) (by rw [t2 48 (by decide)]; exact gc) t1
          unfold wkF
          rw [e]
          exact this
        | none => rw [e] at hm0; exact absurd hm0.1 hv
  exact key x3.toNat 0 v p σ6 (by omega) hlp hok hS6 hc6 h1
