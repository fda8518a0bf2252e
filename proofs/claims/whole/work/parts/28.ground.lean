/-! ===== the ground: ways and ways out ===== -/
def GS (σ σ1 : Mem) : Prop := Same [1, 11, 13] σ σ1 ∧ ∀ j, j ≠ 6 → σ1 1 j = σ 1 j
theorem GS.rf {σ : Mem} : GS σ σ := ⟨Same.rf, fun _ _ => rfl⟩
theorem GS.tr {σ σ1 σ2 : Mem} (h : GS σ σ1) (h2 : GS σ1 σ2) : GS σ σ2 := ⟨h.1.tr h2.1, fun j hj => (h2.2 j hj).trans (h.2 j hj)⟩
def cI (K : Nat → Int) (d : Nat) : Prop := K d = 1
def sI (K : Nat → Int) (d : Nat) : Prop := K d = 2
def GB (K : Nat → Int) (s0 i : Nat) (L : List Nat) (P : Nat → Prop) (v : Int) (σ : Mem) : Prop := σ 3 = K ∧ BJ (cI K) (sI K) s0 i L (σ 11) P v ∧ hld σ 13 L ∧ σ 1 6 = L.length ∧ i < L.length
theorem BJ.wk {col slt : Nat → Prop} {s0 i : Nat} {L : List Nat} {f : Nat → Int} {P P' : Nat → Prop} {v : Int} (h : BJ col slt s0 i L f P v) (hp : ∀ e, P' e → P e) : BJ col slt s0 i L f P' v :=
  ⟨h.nd, h.lt, h.z, h.kn, h.sl, h.snd, h.op, h.mono, h.idx, h.up, h.pr, h.cv, h.vb, fun e he hc => h.cu e (hp e he) hc⟩
set_option maxRecDepth 100000 in
theorem rX2_reach_0 {x1 x2 : Int}  {σ : Mem} {Q : Int → Mem → Prop} (h : (x1 = (-1) → Q 0 σ) ∧ (x1 ≠ (-1) → ((0 ≤ x1) ∧ (((x1 < 36) ∧ (((σ 11 (x1).toNat) ≠ (-1) → Q 0 σ) ∧ ((σ 11 (x1).toNat) = (-1) → ((σ 3 (x1).toNat) ≠ 1 → ((σ 3 (x1).toNat) = 2 → Q 0 (mu σ 11 (x1).toNat x2)) ∧ ((σ 3 (x1).toNat) ≠ 2 → ((0 ≤ (σ 1 6)) ∧ ((((σ 1 6) < 36) ∧ (((inR ((σ 1 6) + 1)) ∧ (Q 0 (mu (mu (mu σ 11 (x1).toNat x2) 13 ((σ 1 6)).toNat x1) 1 6 ((σ 1 6) + 1)))))))))) ∧ ((σ 3 (x1).toNat) = 1 → Q 0 σ)))))))) : CM mX2_reach [.inr 1, .inl x1, .inl x2] σ Q := by
  refine CM_of_GO (by decide +kernel) rfl (Nat.le_of_ble_eq_true rfl) ?_
  show GO none mX2_reach 0 [some (.inr 1), some (.inl x1), some (.inl x2)] [] σ Q
  refine g_iload_n dX2_reach_0 rfl rfl ?_
  refine g_iconst dX2_reach_1 (by decide) ?_
  refine g_icmp_eq (tgt := 29) dX2_reach_2 (by decide) (fun c1 => ?_) (fun c1 => ?_)
  · have h := h.1 c1
    exact g_return rfl dX2_reach_29 h
  · have h := h.2 c1
    refine g_aload_n dX2_reach_5 rfl rfl ?_
    refine g_getR (r' := 10) flX2_29 (by decide) rfl (by decide) rfl dX2_reach_6 ?_
    refine g_iload_n dX2_reach_9 rfl rfl ?_
    obtain ⟨p2, h⟩ := h
    obtain ⟨p3, h⟩ := h
    refine g_invVI (as := [.inl x1]) (rest := []) okX7_get mlX2_45 (by decide) rfl ⟨_, _, rfl⟩ rfl ⟨Nat.le_of_ble_eq_true rfl, Nat.le_of_ble_eq_true rfl⟩ (Nat.le_of_ble_eq_true rfl) rfl dX2_reach_10 (c_X7_get ⟨by decide, by decide, rfl, rfl, rfl⟩ p2 p3) (Or.inl rfl) (fun v4 σ5 e6 => ?_)
    obtain ⟨e6a, e6b⟩ := e6; subst v4; subst σ5
    refine g_iconst dX2_reach_13 (by decide) ?_
    refine g_icmp_ne (tgt := 29) dX2_reach_14 (by decide) (fun c7 => ?_) (fun c7 => ?_)
    · have h := h.1 c7
      exact g_return rfl dX2_reach_29 h
    · have h := h.2 c7
      refine g_aload_n dX2_reach_17 rfl rfl ?_
      refine g_getR (r' := 2) flX2_14 (by decide) rfl (by decide) rfl dX2_reach_18 ?_
      refine g_iload_n dX2_reach_21 rfl rfl ?_
      refine g_invVI (as := [.inl x1]) (rest := []) okX7_get mlX2_45 (by decide) rfl ⟨_, _, rfl⟩ rfl ⟨Nat.le_of_ble_eq_true rfl, Nat.le_of_ble_eq_true rfl⟩ (Nat.le_of_ble_eq_true rfl) rfl dX2_reach_22 (c_X7_get ⟨by decide, by decide, rfl, rfl, rfl⟩ p2 p3) (Or.inl rfl) (fun v8 σ9 e10 => ?_)
      obtain ⟨e10a, e10b⟩ := e10; subst v8; subst σ9
      refine g_iconst dX2_reach_25 (by decide) ?_
      refine g_icmp_ne (tgt := 30) dX2_reach_26 (by decide) (fun c11 => ?_) (fun c11 => ?_)
      · have h := h.1 c11
        refine g_aload_n dX2_reach_30 rfl rfl ?_
        refine g_getR (r' := 10) flX2_29 (by decide) rfl (by decide) rfl dX2_reach_31 ?_
        refine g_iload_n dX2_reach_34 rfl rfl ?_
        refine g_iload_n dX2_reach_35 rfl rfl ?_
        refine g_invVV (as := [.inl x1, .inl x2]) (rest := []) okX7_set mlX2_49 (by decide) rfl ⟨_, _, rfl⟩ rfl ⟨Nat.le_of_ble_eq_true rfl, Nat.le_of_ble_eq_true rfl⟩ (Nat.le_of_ble_eq_true rfl) rfl dX2_reach_36 (c_X7_set ⟨by decide, by decide, rfl, rfl, rfl⟩ p2 p3) rfl (fun σ13 e14 => ?_)
        subst σ13
        refine g_aload_n dX2_reach_39 rfl rfl ?_
        refine g_getR (r' := 2) flX2_14 (by decide) rfl (by decide) rfl dX2_reach_40 ?_
        refine g_iload_n dX2_reach_43 rfl rfl ?_
        refine g_invVI (as := [.inl x1]) (rest := []) okX7_get mlX2_45 (by decide) rfl ⟨_, _, rfl⟩ rfl ⟨Nat.le_of_ble_eq_true rfl, Nat.le_of_ble_eq_true rfl⟩ (Nat.le_of_ble_eq_true rfl) rfl dX2_reach_44 (c_X7_get ⟨by decide, by decide, rfl, rfl, rfl⟩ p2 p3) (Or.inl rfl) (fun v15 σ16 e17 => ?_)
        obtain ⟨e17a, e17b⟩ := e17; subst v15; subst σ16
        refine g_top (w := (σ 3 (x1).toNat)) rfl ?_
        refine g_iconst dX2_reach_47 (by decide) ?_
        refine g_icmp_eq (tgt := 73) dX2_reach_48 (by decide) (fun c18 => ?_) (fun c18 => ?_)
        · have h := h.1 c18
          exact g_return rfl dX2_reach_73 h
        · have h := h.2 c18
          refine g_aload_n dX2_reach_51 rfl rfl ?_
          refine g_getR (r' := 12) flX2_32 (by decide) rfl (by decide) rfl dX2_reach_52 ?_
          refine g_aload_n dX2_reach_55 rfl rfl ?_
          refine g_getI flX2_35 (by decide) rfl (by decide) rfl dX2_reach_56 ?_
          refine g_top (w := (σ 1 6)) rfl ?_
          refine g_iload_n dX2_reach_59 rfl rfl ?_
          obtain ⟨p19, h⟩ := h
          obtain ⟨p20, h⟩ := h
          refine g_invVV (as := [.inl (σ 1 6), .inl x1]) (rest := []) okX7_set mlX2_49 (by decide) rfl ⟨_, _, rfl⟩ rfl ⟨Nat.le_of_ble_eq_true rfl, Nat.le_of_ble_eq_true rfl⟩ (Nat.le_of_ble_eq_true rfl) rfl dX2_reach_60 (c_X7_set ⟨by decide, by decide, rfl, rfl, rfl⟩ p19 p20) rfl (fun σ22 e23 => ?_)
          subst σ22
          refine g_aload_n dX2_reach_63 rfl rfl ?_
          refine g_dup dX2_reach_64 ?_
          refine g_getI flX2_35 (by decide) rfl (by decide) rfl dX2_reach_65 ?_
          refine g_top (w := (σ 1 6)) rfl ?_
          refine g_iconst dX2_reach_68 (by decide) ?_
          obtain ⟨p24, h⟩ := h
          refine g_iadd dX2_reach_69 p24 ?_
          refine g_putI fpX2_35 (by decide) rfl (by decide) rfl (Or.inl rfl) dX2_reach_70 ?_
          exact g_return rfl dX2_reach_73 h
      · have h := h.2 c11
        exact g_return rfl dX2_reach_29 h
theorem c_X2_reach {K : Nat → Int} {s0 i : Nat} {L : List Nat} {P : Nat → Prop} {v x1 x2 : Int} {σ : Mem} (h : GB K s0 i L P v σ) (hx : x1 = -1 ∨ ∃ d : Nat, x1 = d ∧ d < 36 ∧ adj (pg L i) d) (e2 : x2 = v + 1) : CM mX2_reach [.inr 1, .inl x1, .inl x2] σ (fun _ σ1 => (∃ L', GB K s0 i L' (fun e => P e ∨ (e : Int) = x1) v σ1 ∧ pg L' i = pg L i) ∧ GS σ σ1) := by
  subst e2
  obtain ⟨h3, hB, hq, hl, hi⟩ := h
  refine rX2_reach_0 ⟨fun e => ?_, fun e => ?_⟩
  · refine ⟨⟨L, ⟨h3, hB.wk (fun d hd => hd.elim id (fun w => by omega)), hq, hl, hi⟩, rfl⟩, GS.rf⟩
  · obtain ⟨d, rfl, hd, ha⟩ := hx.resolve_left e
    have hwk : ∀ e : Nat, (P e ∨ (e : Int) = (d : Int)) → (P e ∨ e = d) := fun e he => he.elim Or.inl (fun w => Or.inr (by omega))
    rw [Int.toNat_natCast, h3]
    refine ⟨by omega, by omega, fun hk => ?_, fun hk => ⟨fun hc => ⟨fun hs => ?_, fun hs => ?_⟩, fun hc => ?_⟩⟩
    · exact ⟨⟨L, ⟨h3, (hB.skip hd (Or.inl hk)).wk hwk, hq, hl, hi⟩, rfl⟩, GS.rf⟩
    · have hn := (hB.new hi hd ha hk hc).1 hs
      refine ⟨⟨L, ⟨by rw [mu_nef (by decide)]; exact h3, ?_, hq.cong (mu_nef (by decide)), by rw [mu_nef (by decide)]; exact hl, hi⟩, rfl⟩, Same.mu (by decide), fun j _ => by rw [mu_nef (by decide)]⟩
      rw [mu_setA, setA_eq]
      exact hn.wk hwk
    · obtain ⟨hn, hL⟩ := (hB.new hi hd ha hk hc).2 hs
      have hll : (L ++ [d]).length = L.length + 1 := by rw [List.length_append, List.length_singleton]
      refine ⟨by omega, by omega, by omega, ⟨L ++ [d], ⟨?_, ?_, ?_, ?_, by omega⟩, pg_app hi⟩, ?_, fun j hj => ?_⟩
      · rw [mu_nef (by decide), mu_nef (by decide), mu_nef (by decide)]; exact h3
      · rw [mu_nef (by decide), mu_nef (by decide), mu_setA, setA_eq]
        exact hn.wk hwk
      · rw [hl, Int.toNat_natCast]
        have w : hld (mu σ 11 d (v + 1)) 13 L := hq.cong (mu_nef (by decide))
        exact (w.snoc d).cong (mu_nef (by decide))
      · rw [mu_at, if_pos rfl, hl, hll]; omega
      · exact ((Same.mu (by decide)).tr (Same.mu (by decide))).tr (Same.mu (by decide))
      · rw [mu_at, if_neg hj, mu_nef (by decide), mu_nef (by decide)]
    · exact ⟨⟨L, ⟨h3, (hB.skip hd (Or.inr hc)).wk hwk, hq, hl, hi⟩, rfl⟩, GS.rf⟩
set_option maxRecDepth 100000 in
theorem rX2_flood_0 {x1 : Int}  {σ : Mem} {Q : Int → Mem → Prop} (h : GO none mX2_flood 2 [some (.inr 1), some (.inl x1), some (.inl 0), none, none, none, none] [] σ Q) : CM mX2_flood [.inr 1, .inl x1] σ Q := by
  refine CM_of_GO (by decide +kernel) rfl (Nat.le_of_ble_eq_true rfl) ?_
  show GO none mX2_flood 0 [some (.inr 1), some (.inl x1), none, none, none, none, none] [] σ Q
  refine g_iconst dX2_flood_0 (by decide) ?_
  refine g_istore_n (ls' := [some (.inr 1), some (.inl x1), some (.inl 0), none, none, none, none]) dX2_flood_1 rfl (by decide) rfl ?_
  exact h
set_option maxRecDepth 100000 in
theorem rX2_flood_2 {x1 x2 : Int}  {σ : Mem} {Q : Int → Mem → Prop} (h : (36 ≤ x2 → ((0 ≤ x1) ∧ (((x1 < 36) ∧ (GO none mX2_flood 48 [some (.inr 1), some (.inl x1), some (.inl 0), none, none, none, none] [] (mu (mu (mu σ 11 (x1).toNat 0) 13 0 x1) 1 6 1) Q))))) ∧ (x2 < 36 → ((0 ≤ x2) ∧ (((inR (x2 + 1)) ∧ (GO none mX2_flood 2 [some (.inr 1), some (.inl x1), some (.inl (x2 + 1)), none, none, none, none] [] (mu σ 11 (x2).toNat (-1)) Q)))))) : GO none mX2_flood 2 [some (.inr 1), some (.inl x1), some (.inl x2), none, none, none, none] [] σ Q := by
  refine g_iload_n dX2_flood_2 rfl rfl ?_
  refine g_bipush dX2_flood_3 (by decide) (by decide) ?_
  refine g_icmp_ge (tgt := 23) dX2_flood_5 (by decide) (fun c1 => ?_) (fun c1 => ?_)
  · have h := h.1 c1
    refine g_aload_n dX2_flood_23 rfl rfl ?_
    refine g_getR (r' := 10) flX2_29 (by decide) rfl (by decide) rfl dX2_flood_24 ?_
    refine g_iload_n dX2_flood_27 rfl rfl ?_
    refine g_iconst dX2_flood_28 (by decide) ?_
    obtain ⟨p2, h⟩ := h
    obtain ⟨p3, h⟩ := h
    refine g_invVV (as := [.inl x1, .inl 0]) (rest := []) okX7_set mlX2_49 (by decide) rfl ⟨_, _, rfl⟩ rfl ⟨Nat.le_of_ble_eq_true rfl, Nat.le_of_ble_eq_true rfl⟩ (Nat.le_of_ble_eq_true rfl) rfl dX2_flood_29 (c_X7_set ⟨by decide, by decide, rfl, rfl, rfl⟩ p2 p3) rfl (fun σ5 e6 => ?_)
    subst σ5
    refine g_aload_n dX2_flood_32 rfl rfl ?_
    refine g_getR (r' := 12) flX2_32 (by decide) rfl (by decide) rfl dX2_flood_33 ?_
    refine g_iconst dX2_flood_36 (by decide) ?_
    refine g_iload_n dX2_flood_37 rfl rfl ?_
    refine g_invVV (as := [.inl 0, .inl x1]) (rest := []) okX7_set mlX2_49 (by decide) rfl ⟨_, _, rfl⟩ rfl ⟨Nat.le_of_ble_eq_true rfl, Nat.le_of_ble_eq_true rfl⟩ (Nat.le_of_ble_eq_true rfl) rfl dX2_flood_38 (c_X7_set ⟨by decide, by decide, rfl, rfl, rfl⟩ (by decide) (by decide)) rfl (fun σ8 e9 => ?_)
    subst σ8
    refine g_aload_n dX2_flood_41 rfl rfl ?_
    refine g_iconst dX2_flood_42 (by decide) ?_
    refine g_putI fpX2_35 (by decide) rfl (by decide) rfl (Or.inl rfl) dX2_flood_43 ?_
    refine g_iconst dX2_flood_46 (by decide) ?_
    refine g_istore_n (ls' := [some (.inr 1), some (.inl x1), some (.inl 0), none, none, none, none]) dX2_flood_47 rfl (by decide) rfl ?_
    exact h
  · have h := h.2 c1
    refine g_aload_n dX2_flood_8 rfl rfl ?_
    refine g_getR (r' := 10) flX2_29 (by decide) rfl (by decide) rfl dX2_flood_9 ?_
    refine g_iload_n dX2_flood_12 rfl rfl ?_
    refine g_iconst dX2_flood_13 (by decide) ?_
    obtain ⟨p10, h⟩ := h
    refine g_invVV (as := [.inl x2, .inl (-1)]) (rest := []) okX7_set mlX2_49 (by decide) rfl ⟨_, _, rfl⟩ rfl ⟨Nat.le_of_ble_eq_true rfl, Nat.le_of_ble_eq_true rfl⟩ (Nat.le_of_ble_eq_true rfl) rfl dX2_flood_14 (c_X7_set ⟨by decide, by decide, rfl, rfl, rfl⟩ p10 c1) rfl (fun σ12 e13 => ?_)
    subst σ12
    obtain ⟨p14, h⟩ := h
    refine g_iinc (ls' := [some (.inr 1), some (.inl x1), some (.inl (x2 + 1)), none, none, none, none]) dX2_flood_17 (by decide) rfl p14 rfl ?_
    refine g_goto (tgt := 2) dX2_flood_20 (by decide) ?_
    exact h
set_option maxRecDepth 100000 in
theorem rX2_flood_48 {x1 x2 : Int}  {σ : Mem} {Q : Int → Mem → Prop} (h : ((σ 1 6) ≤ x2 → Q 0 σ) ∧ (x2 < (σ 1 6) → (36 ≤ x2 → Q 0 σ) ∧ (x2 < 36 → ((0 ≤ x2) ∧ (((0 ≤ (σ 13 (x2).toNat)) ∧ ((((σ 13 (x2).toNat) < 36) ∧ (((inR ((σ 11 ((σ 13 (x2).toNat)).toNat) + 1)) ∧ (((inR ((Int.tmod (σ 13 (x2).toNat) 6) - 1)) ∧ ((∀ v14 : Int, ((0 ≤ ((Int.tmod (σ 13 (x2).toNat) 6) - 1) ∧ ((Int.tmod (σ 13 (x2).toNat) 6) - 1) < 6 ∧ 0 ≤ (Int.tdiv (σ 13 (x2).toNat) 6) ∧ (Int.tdiv (σ 13 (x2).toNat) 6) < 6 ∧ v14 = 6 * (Int.tdiv (σ 13 (x2).toNat) 6) + ((Int.tmod (σ 13 (x2).toNat) 6) - 1)) ∨ (¬ (0 ≤ ((Int.tmod (σ 13 (x2).toNat) 6) - 1) ∧ ((Int.tmod (σ 13 (x2).toNat) 6) - 1) < 6 ∧ 0 ≤ (Int.tdiv (σ 13 (x2).toNat) 6) ∧ (Int.tdiv (σ 13 (x2).toNat) 6) < 6) ∧ v14 = -1)) → (CM mX2_reach [.inr 1, .inl v14, .inl ((σ 11 ((σ 13 (x2).toNat)).toNat) + 1)] σ (fun _ σ18 => ((inR ((Int.tmod (σ 13 (x2).toNat) 6) + 1)) ∧ ((∀ v21 : Int, ((0 ≤ ((Int.tmod (σ 13 (x2).toNat) 6) + 1) ∧ ((Int.tmod (σ 13 (x2).toNat) 6) + 1) < 6 ∧ 0 ≤ (Int.tdiv (σ 13 (x2).toNat) 6) ∧ (Int.tdiv (σ 13 (x2).toNat) 6) < 6 ∧ v21 = 6 * (Int.tdiv (σ 13 (x2).toNat) 6) + ((Int.tmod (σ 13 (x2).toNat) 6) + 1)) ∨ (¬ (0 ≤ ((Int.tmod (σ 13 (x2).toNat) 6) + 1) ∧ ((Int.tmod (σ 13 (x2).toNat) 6) + 1) < 6 ∧ 0 ≤ (Int.tdiv (σ 13 (x2).toNat) 6) ∧ (Int.tdiv (σ 13 (x2).toNat) 6) < 6) ∧ v21 = -1)) → (CM mX2_reach [.inr 1, .inl v21, .inl ((σ 11 ((σ 13 (x2).toNat)).toNat) + 1)] σ18 (fun _ σ25 => ((inR ((Int.tdiv (σ 13 (x2).toNat) 6) - 1)) ∧ ((∀ v28 : Int, ((0 ≤ (Int.tmod (σ 13 (x2).toNat) 6) ∧ (Int.tmod (σ 13 (x2).toNat) 6) < 6 ∧ 0 ≤ ((Int.tdiv (σ 13 (x2).toNat) 6) - 1) ∧ ((Int.tdiv (σ 13 (x2).toNat) 6) - 1) < 6 ∧ v28 = 6 * ((Int.tdiv (σ 13 (x2).toNat) 6) - 1) + (Int.tmod (σ 13 (x2).toNat) 6)) ∨ (¬ (0 ≤ (Int.tmod (σ 13 (x2).toNat) 6) ∧ (Int.tmod (σ 13 (x2).toNat) 6) < 6 ∧ 0 ≤ ((Int.tdiv (σ 13 (x2).toNat) 6) - 1) ∧ ((Int.tdiv (σ 13 (x2).toNat) 6) - 1) < 6) ∧ v28 = -1)) → (CM mX2_reach [.inr 1, .inl v28, .inl ((σ 11 ((σ 13 (x2).toNat)).toNat) + 1)] σ25 (fun _ σ32 => ((inR ((Int.tdiv (σ 13 (x2).toNat) 6) + 1)) ∧ ((∀ v35 : Int, ((0 ≤ (Int.tmod (σ 13 (x2).toNat) 6) ∧ (Int.tmod (σ 13 (x2).toNat) 6) < 6 ∧ 0 ≤ ((Int.tdiv (σ 13 (x2).toNat) 6) + 1) ∧ ((Int.tdiv (σ 13 (x2).toNat) 6) + 1) < 6 ∧ v35 = 6 * ((Int.tdiv (σ 13 (x2).toNat) 6) + 1) + (Int.tmod (σ 13 (x2).toNat) 6)) ∨ (¬ (0 ≤ (Int.tmod (σ 13 (x2).toNat) 6) ∧ (Int.tmod (σ 13 (x2).toNat) 6) < 6 ∧ 0 ≤ ((Int.tdiv (σ 13 (x2).toNat) 6) + 1) ∧ ((Int.tdiv (σ 13 (x2).toNat) 6) + 1) < 6) ∧ v35 = -1)) → (CM mX2_reach [.inr 1, .inl v35, .inl ((σ 11 ((σ 13 (x2).toNat)).toNat) + 1)] σ32 (fun _ σ39 => ((inR (x2 + 1)) ∧ (GO none mX2_flood 48 [some (.inr 1), some (.inl x1), some (.inl (x2 + 1)), none, none, none, none] [] σ39 Q))))))))))))))))))))))))))))))))) : GO none mX2_flood 48 [some (.inr 1), some (.inl x1), some (.inl x2), none, none, none, none] [] σ Q := by
  refine g_iload_n dX2_flood_48 rfl rfl ?_
  refine g_aload_n dX2_flood_49 rfl rfl ?_
  refine g_getI flX2_35 (by decide) rfl (by decide) rfl dX2_flood_50 ?_
  refine g_icmp_ge (tgt := 161) dX2_flood_53 (by decide) (fun c1 => ?_) (fun c1 => ?_)
  · have h := h.1 c1
    exact g_return rfl dX2_flood_161 h
  · have h := h.2 c1
    refine g_iload_n dX2_flood_56 rfl rfl ?_
    refine g_bipush dX2_flood_57 (by decide) (by decide) ?_
    refine g_icmp_ge (tgt := 161) dX2_flood_59 (by decide) (fun c2 => ?_) (fun c2 => ?_)
    · have h := h.1 c2
      exact g_return rfl dX2_flood_161 h
    · have h := h.2 c2
      refine g_aload_n dX2_flood_62 rfl rfl ?_
      refine g_getR (r' := 12) flX2_32 (by decide) rfl (by decide) rfl dX2_flood_63 ?_
      refine g_iload_n dX2_flood_66 rfl rfl ?_
      obtain ⟨p3, h⟩ := h
      refine g_invVI (as := [.inl x2]) (rest := []) okX7_get mlX2_45 (by decide) rfl ⟨_, _, rfl⟩ rfl ⟨Nat.le_of_ble_eq_true rfl, Nat.le_of_ble_eq_true rfl⟩ (Nat.le_of_ble_eq_true rfl) rfl dX2_flood_67 (c_X7_get ⟨by decide, by decide, rfl, rfl, rfl⟩ p3 c2) (Or.inl rfl) (fun v4 σ5 e6 => ?_)
      obtain ⟨e6a, e6b⟩ := e6; subst v4; subst σ5
      refine g_istore_n (ls' := [some (.inr 1), some (.inl x1), some (.inl x2), some (.inl (σ 13 (x2).toNat)), none, none, none]) dX2_flood_70 rfl (by decide) rfl ?_
      refine g_aload_n dX2_flood_71 rfl rfl ?_
      refine g_getR (r' := 10) flX2_29 (by decide) rfl (by decide) rfl dX2_flood_72 ?_
      refine g_iload_n dX2_flood_75 rfl rfl ?_
      obtain ⟨p7, h⟩ := h
      obtain ⟨p8, h⟩ := h
      refine g_invVI (as := [.inl (σ 13 (x2).toNat)]) (rest := []) okX7_get mlX2_45 (by decide) rfl ⟨_, _, rfl⟩ rfl ⟨Nat.le_of_ble_eq_true rfl, Nat.le_of_ble_eq_true rfl⟩ (Nat.le_of_ble_eq_true rfl) rfl dX2_flood_76 (c_X7_get ⟨by decide, by decide, rfl, rfl, rfl⟩ p7 p8) (Or.inl rfl) (fun v9 σ10 e11 => ?_)
      obtain ⟨e11a, e11b⟩ := e11; subst v9; subst σ10
      refine g_iconst dX2_flood_79 (by decide) ?_
      obtain ⟨p12, h⟩ := h
      refine g_iadd dX2_flood_80 p12 ?_
      refine g_istore (ls' := [some (.inr 1), some (.inl x1), some (.inl x2), some (.inl (σ 13 (x2).toNat)), some (.inl ((σ 11 ((σ 13 (x2).toNat)).toNat) + 1)), none, none]) dX2_flood_81 (by decide) rfl ?_
      refine g_iload_n dX2_flood_83 rfl rfl ?_
      refine g_bipush dX2_flood_84 (by decide) (by decide) ?_
      refine g_irem dX2_flood_86 (by decide) ?_
      refine g_istore (ls' := [some (.inr 1), some (.inl x1), some (.inl x2), some (.inl (σ 13 (x2).toNat)), some (.inl ((σ 11 ((σ 13 (x2).toNat)).toNat) + 1)), some (.inl (Int.tmod (σ 13 (x2).toNat) 6)), none]) dX2_flood_87 (by decide) rfl ?_
      refine g_iload_n dX2_flood_89 rfl rfl ?_
      refine g_bipush dX2_flood_90 (by decide) (by decide) ?_
      refine g_idiv dX2_flood_92 (by decide) ?_
      refine g_istore (ls' := [some (.inr 1), some (.inl x1), some (.inl x2), some (.inl (σ 13 (x2).toNat)), some (.inl ((σ 11 ((σ 13 (x2).toNat)).toNat) + 1)), some (.inl (Int.tmod (σ 13 (x2).toNat) 6)), some (.inl (Int.tdiv (σ 13 (x2).toNat) 6))]) dX2_flood_93 (by decide) rfl ?_
      refine g_aload_n dX2_flood_95 rfl rfl ?_
      refine g_iload dX2_flood_96 rfl ?_
      refine g_iconst dX2_flood_98 (by decide) ?_
      obtain ⟨p13, h⟩ := h
      refine g_isub dX2_flood_99 p13 ?_
      refine g_iload dX2_flood_100 rfl ?_
      refine g_invNI (as := [.inl ((Int.tmod (σ 13 (x2).toNat) 6) - 1), .inl (Int.tdiv (σ 13 (x2).toNat) 6)]) (rest := [.inr 1]) okX10_cellAt rfl rfl ⟨Nat.le_of_ble_eq_true rfl, Nat.le_of_ble_eq_true rfl⟩ (Nat.le_of_ble_eq_true rfl) rfl dX2_flood_102 (c_X10_cellAt (x := ((Int.tmod (σ 13 (x2).toNat) 6) - 1)) (y := (Int.tdiv (σ 13 (x2).toNat) 6))) (Or.inl rfl) (fun v14 σ15 e16 => ?_)
      obtain ⟨e16a, e16b⟩ := e16; subst σ15
      have h := h v14 e16a
      refine g_iload dX2_flood_105 rfl ?_
      refine g_invVV (as := [.inl v14, .inl ((σ 11 ((σ 13 (x2).toNat)).toNat) + 1)]) (rest := []) okX2_reach mlX2_70 (by decide) rfl ⟨_, _, rfl⟩ rfl ⟨Nat.le_of_ble_eq_true rfl, Nat.le_of_ble_eq_true rfl⟩ (Nat.le_of_ble_eq_true rfl) rfl dX2_flood_107 h rfl (fun σ18 e19 => ?_)
      have h := e19
      refine g_aload_n dX2_flood_110 rfl rfl ?_
      refine g_iload dX2_flood_111 rfl ?_
      refine g_iconst dX2_flood_113 (by decide) ?_
      obtain ⟨p20, h⟩ := h
      refine g_iadd dX2_flood_114 p20 ?_
      refine g_iload dX2_flood_115 rfl ?_
      refine g_invNI (as := [.inl ((Int.tmod (σ 13 (x2).toNat) 6) + 1), .inl (Int.tdiv (σ 13 (x2).toNat) 6)]) (rest := [.inr 1]) okX10_cellAt rfl rfl ⟨Nat.le_of_ble_eq_true rfl, Nat.le_of_ble_eq_true rfl⟩ (Nat.le_of_ble_eq_true rfl) rfl dX2_flood_117 (c_X10_cellAt (x := ((Int.tmod (σ 13 (x2).toNat) 6) + 1)) (y := (Int.tdiv (σ 13 (x2).toNat) 6))) (Or.inl rfl) (fun v21 σ22 e23 => ?_)
      obtain ⟨e23a, e23b⟩ := e23; subst σ22
      have h := h v21 e23a
      refine g_iload dX2_flood_120 rfl ?_
      refine g_invVV (as := [.inl v21, .inl ((σ 11 ((σ 13 (x2).toNat)).toNat) + 1)]) (rest := []) okX2_reach mlX2_70 (by decide) rfl ⟨_, _, rfl⟩ rfl ⟨Nat.le_of_ble_eq_true rfl, Nat.le_of_ble_eq_true rfl⟩ (Nat.le_of_ble_eq_true rfl) rfl dX2_flood_122 h rfl (fun σ25 e26 => ?_)
      have h := e26
      refine g_aload_n dX2_flood_125 rfl rfl ?_
      refine g_iload dX2_flood_126 rfl ?_
      refine g_iload dX2_flood_128 rfl ?_
      refine g_iconst dX2_flood_130 (by decide) ?_
      obtain ⟨p27, h⟩ := h
      refine g_isub dX2_flood_131 p27 ?_
      refine g_invNI (as := [.inl (Int.tmod (σ 13 (x2).toNat) 6), .inl ((Int.tdiv (σ 13 (x2).toNat) 6) - 1)]) (rest := [.inr 1]) okX10_cellAt rfl rfl ⟨Nat.le_of_ble_eq_true rfl, Nat.le_of_ble_eq_true rfl⟩ (Nat.le_of_ble_eq_true rfl) rfl dX2_flood_132 (c_X10_cellAt (x := (Int.tmod (σ 13 (x2).toNat) 6)) (y := ((Int.tdiv (σ 13 (x2).toNat) 6) - 1))) (Or.inl rfl) (fun v28 σ29 e30 => ?_)
      obtain ⟨e30a, e30b⟩ := e30; subst σ29
      have h := h v28 e30a
      refine g_iload dX2_flood_135 rfl ?_
      refine g_invVV (as := [.inl v28, .inl ((σ 11 ((σ 13 (x2).toNat)).toNat) + 1)]) (rest := []) okX2_reach mlX2_70 (by decide) rfl ⟨_, _, rfl⟩ rfl ⟨Nat.le_of_ble_eq_true rfl, Nat.le_of_ble_eq_true rfl⟩ (Nat.le_of_ble_eq_true rfl) rfl dX2_flood_137 h rfl (fun σ32 e33 => ?_)
      have h := e33
      refine g_aload_n dX2_flood_140 rfl rfl ?_
      refine g_iload dX2_flood_141 rfl ?_
      refine g_iload dX2_flood_143 rfl ?_
      refine g_iconst dX2_flood_145 (by decide) ?_
      obtain ⟨p34, h⟩ := h
      refine g_iadd dX2_flood_146 p34 ?_
      refine g_invNI (as := [.inl (Int.tmod (σ 13 (x2).toNat) 6), .inl ((Int.tdiv (σ 13 (x2).toNat) 6) + 1)]) (rest := [.inr 1]) okX10_cellAt rfl rfl ⟨Nat.le_of_ble_eq_true rfl, Nat.le_of_ble_eq_true rfl⟩ (Nat.le_of_ble_eq_true rfl) rfl dX2_flood_147 (c_X10_cellAt (x := (Int.tmod (σ 13 (x2).toNat) 6)) (y := ((Int.tdiv (σ 13 (x2).toNat) 6) + 1))) (Or.inl rfl) (fun v35 σ36 e37 => ?_)
      obtain ⟨e37a, e37b⟩ := e37; subst σ36
      have h := h v35 e37a
      refine g_iload dX2_flood_150 rfl ?_
      refine g_invVV (as := [.inl v35, .inl ((σ 11 ((σ 13 (x2).toNat)).toNat) + 1)]) (rest := []) okX2_reach mlX2_70 (by decide) rfl ⟨_, _, rfl⟩ rfl ⟨Nat.le_of_ble_eq_true rfl, Nat.le_of_ble_eq_true rfl⟩ (Nat.le_of_ble_eq_true rfl) rfl dX2_flood_152 h rfl (fun σ39 e40 => ?_)
      have h := e40
      obtain ⟨p41, h⟩ := h
      refine g_iinc (ls' := [some (.inr 1), some (.inl x1), some (.inl (x2 + 1)), some (.inl (σ 13 (x2).toNat)), some (.inl ((σ 11 ((σ 13 (x2).toNat)).toNat) + 1)), some (.inl (Int.tmod (σ 13 (x2).toNat) 6)), some (.inl (Int.tdiv (σ 13 (x2).toNat) 6))]) dX2_flood_155 (by decide) rfl p41 rfl ?_
      refine g_goto (tgt := 48) dX2_flood_158 (by decide) ?_
      refine g_kill (i := 3) (ls' := [some (.inr 1), some (.inl x1), some (.inl (x2 + 1)), none, some (.inl ((σ 11 ((σ 13 (x2).toNat)).toNat) + 1)), some (.inl (Int.tmod (σ 13 (x2).toNat) 6)), some (.inl (Int.tdiv (σ 13 (x2).toNat) 6))]) rfl ?_
      refine g_kill (i := 4) (ls' := [some (.inr 1), some (.inl x1), some (.inl (x2 + 1)), none, none, some (.inl (Int.tmod (σ 13 (x2).toNat) 6)), some (.inl (Int.tdiv (σ 13 (x2).toNat) 6))]) rfl ?_
      refine g_kill (i := 5) (ls' := [some (.inr 1), some (.inl x1), some (.inl (x2 + 1)), none, none, none, some (.inl (Int.tdiv (σ 13 (x2).toNat) 6))]) rfl ?_
      refine g_kill (i := 6) (ls' := [some (.inr 1), some (.inl x1), some (.inl (x2 + 1)), none, none, none, none]) rfl ?_
      exact h
theorem c_X2_flood {x : Int} {σ : Mem} (h0 : 0 ≤ x) (h6 : x < 36) : CM mX2_flood [.inr 1, .inl x] σ (fun _ σ1 => IsD (cI (σ 3)) (sI (σ 3)) x.toNat (σ1 11) ∧ GS σ σ1) := by
  obtain ⟨s0, rfl⟩ : ∃ s0 : Nat, x = s0 := ⟨x.toNat, by omega⟩
  rw [Int.toNat_natCast]
  have hs0 : s0 < 36 := by omega
  have loop : ∀ (d i : Nat) (L : List Nat) (v : Int) (σ0 : Mem), i + d = 36 → σ0 3 = σ 3 → BJ (cI (σ 3)) (sI (σ 3)) s0 i L (σ0 11) (fun _ => False) v → hld σ0 13 L → σ0 1 6 = L.length → GS σ σ0 → GO none mX2_flood 48 [some (.inr 1), some (.inl (s0 : Int)), some (.inl (i : Int)), none, none, none, none] [] σ0 (fun _ σ1 => IsD (cI (σ 3)) (sI (σ 3)) s0 (σ1 11) ∧ GS σ σ1) := by
    intro d
    induction d with
    | zero =>
      intro i L v σ0 hd e3 hB hq hl hG
      have hn := nd_len hB.nd hB.lt
      exact rX2_flood_48 ⟨fun _ => ⟨hB.fin hs0 (by omega), hG⟩, fun _ => ⟨fun _ => ⟨hB.fin hs0 (by omega), hG⟩, fun h => by omega⟩⟩
    | succ d ih =>
      intro i L v σ0 hd e3 hB hq hl hG
      refine rX2_flood_48 ⟨fun h => ⟨hB.fin hs0 (by omega), hG⟩, fun h => ⟨fun h' => by omega, fun h' => ?_⟩⟩
      have hi : i < L.length := by omega
      have hc := hB.cell hi
      have hvb := hB.vb
      have e13 : σ0 13 i = (pg L i : Int) := hq.pg hi
      have e11 : σ0 11 (pg L i) = v := hB.cv hi
      rw [Int.toNat_natCast, e13, Int.toNat_natCast, e11, Int.tmod_eq_emod_of_nonneg (by omega), Int.tdiv_eq_ediv_of_nonneg (by omega)]
      have hG0 : GB (σ 3) s0 i L (fun _ => False) v σ0 := ⟨e3, hB, hq, hl, hi⟩
      refine ⟨by omega, by omega, by omega, by omega, by omega, fun v1 hv1 => ?_⟩
      refine CM.mono (fun _ σ1 hq1 => ?_) (c_X2_reach hG0 (x1 := v1) ?_ rfl)
      rotate_left
      · rcases hv1 with hv1 | hv1
        · refine Or.inr ⟨pg L i - 1, by omega, by omega, Or.inl ?_⟩
          unfold nL
          rw [if_pos (by omega)]
          omega
        · exact Or.inl hv1.2
      obtain ⟨⟨L1, hG1, p1⟩, g1⟩ := hq1
      refine ⟨by omega, fun v2 hv2 => ?_⟩
      refine CM.mono (fun _ σ2 hq2 => ?_) (c_X2_reach hG1 (x1 := v2) ?_ rfl)
      rotate_left
      · rw [p1]
        rcases hv2 with hv2 | hv2
        · refine Or.inr ⟨pg L i + 1, by omega, by omega, Or.inr (Or.inl ?_)⟩
          unfold nRt
          rw [if_pos (by omega)]
          omega
        · exact Or.inl hv2.2
      obtain ⟨⟨L2, hG2, p2⟩, g2⟩ := hq2
      refine ⟨by omega, fun v3 hv3 => ?_⟩
      refine CM.mono (fun _ σ3 hq3 => ?_) (c_X2_reach hG2 (x1 := v3) ?_ rfl)
      rotate_left
      · rw [p2, p1]
        rcases hv3 with hv3 | hv3
        · refine Or.inr ⟨pg L i - 6, by omega, by omega, Or.inr (Or.inr (Or.inl ?_))⟩
          unfold nU
          rw [if_pos (by omega)]
          omega
        · exact Or.inl hv3.2
      obtain ⟨⟨L3, hG3, p3⟩, g3⟩ := hq3
      refine ⟨by omega, fun v4 hv4 => ?_⟩
      refine CM.mono (fun _ σ4 hq4 => ?_) (c_X2_reach hG3 (x1 := v4) ?_ rfl)
      rotate_left
      · rw [p3, p2, p1]
        rcases hv4 with hv4 | hv4
        · refine Or.inr ⟨pg L i + 6, by omega, by omega, Or.inr (Or.inr (Or.inr ?_))⟩
          unfold nDn
          rw [if_pos (by omega)]
          omega
        · exact Or.inl hv4.2
      obtain ⟨⟨L4, ⟨k1, k2, k3, k4, k5⟩, p4⟩, g4⟩ := hq4
      refine ⟨by omega, ?_⟩
      have pe : pg L4 i = pg L i := by rw [p4, p3, p2, p1]
      obtain ⟨w, hw⟩ := k2.next k5 (fun d hd => by
        rw [pe] at hd
        have hd6 := adj_lt hd hc.1
        rcases hd with hd | hd | hd | hd
        · unfold nL at hd
          split at hd
          · exact Or.inl (Or.inl (Or.inl (Or.inr (by omega))))
          · omega
        · unfold nRt at hd
          split at hd
          · exact Or.inl (Or.inl (Or.inr (by omega)))
          · omega
        · unfold nU at hd
          split at hd
          · exact Or.inl (Or.inr (by omega))
          · omega
        · unfold nDn at hd
          split at hd
          · exact Or.inr (by omega)
          · omega)
      exact ih (i + 1) L4 w σ4 (by omega) k1 hw k3 k4 (hG.tr (((g1.tr g2).tr g3).tr g4))
  have fill : ∀ (d i : Nat) (σ0 : Mem), i + d = 36 → Same [11] σ σ0 → (∀ j, j < i → σ0 11 j = -1) → GO none mX2_flood 2 [some (.inr 1), some (.inl (s0 : Int)), some (.inl (i : Int)), none, none, none, none] [] σ0 (fun _ σ1 => IsD (cI (σ 3)) (sI (σ 3)) s0 (σ1 11) ∧ GS σ σ1) := by
    intro d
    induction d with
    | zero =>
      intro i σ0 hd hS hf
      refine rX2_flood_2 ⟨fun _ => ⟨by omega, by omega, ?_⟩, fun h => by omega⟩
      rw [Int.toNat_natCast]
      refine loop 36 0 [s0] 0 _ rfl ?_ ?_ ?_ ?_ ?_
      · rw [mu_nef (by decide), mu_nef (by decide), mu_nef (by decide)]; exact hS 3 (by decide)
      · rw [mu_nef (by decide), mu_nef (by decide)]
        refine BJ.start hs0 (fun d hd => ?_)
        rw [mu_at]
        by_cases e : d = s0
        · rw [if_pos e, if_pos e]
        · rw [if_neg e, if_neg e]; exact hf d (by omega)
      · have w : hld (mu σ0 11 s0 0) 13 [] := hld_nil
        exact (w.snoc s0).cong (mu_nef (by decide))
      · rw [mu_at, if_pos rfl]; rfl
      · refine ⟨(((hS.wk (by decide)).tr (Same.mu (by decide))).tr (Same.mu (by decide))).tr (Same.mu (by decide)), fun j hj => ?_⟩
        rw [mu_at, if_neg hj, mu_nef (by decide), mu_nef (by decide), hS 1 (by decide)]
    | succ d ih =>
      intro i σ0 hd hS hf
      refine rX2_flood_2 ⟨fun h => by omega, fun h => ⟨by omega, by omega, ?_⟩⟩
      rw [Int.toNat_natCast]
      refine ih (i + 1) _ (by omega) (hS.tr (Same.mu (by decide))) (fun j hj => ?_)
      rw [mu_at]
      by_cases e : j = i
      · rw [if_pos e]
      · rw [if_neg e]; exact hf j (by omega)
  exact rX2_flood_0 (fill 36 0 σ rfl Same.rf (fun j hj => by omega))
/-- the least of the ways to the exits among the first cells -/
def nearF (e : Nat → Bool) (f : Nat → Int) : Nat → Int
  | 0 => -1
  | n + 1 => if e n = true ∧ f n ≠ -1 ∧ (nearF e f n = -1 ∨ f n < nearF e f n) then f n else nearF e f n
theorem nearF_cong {e e' : Nat → Bool} {f f' : Nat → Int} : ∀ n, (∀ i, i < n → e i = e' i ∧ f i = f' i) → nearF e f n = nearF e' f' n
  | 0, _ => rfl
  | n + 1, h => by
    have h1 := h n (by omega)
    unfold nearF
    rw [nearF_cong n (fun i hi => h i (by omega)), h1.1, h1.2]
theorem nearF_bd {e : Nat → Bool} {f : Nat → Int} : ∀ n, (∀ i, i < n → -1 ≤ f i ∧ f i ≤ 36) → -1 ≤ nearF e f n ∧ nearF e f n ≤ 36
  | 0, _ => by unfold nearF; omega
  | n + 1, h => by
    have h1 := h n (by omega)
    have h2 := nearF_bd (e := e) n (fun i hi => h i (by omega))
    unfold nearF
    split
    · exact h1
    · exact h2
def eI (K : Nat → Int) (d : Nat) : Bool := K d == 3
set_option maxRecDepth 100000 in
theorem rX2_nearestExit_0  {σ : Mem} {Q : Int → Mem → Prop} (h : GO none mX2_nearestExit 4 [some (.inr 1), some (.inl (-1)), some (.inl 0), none] [] σ Q) : CM mX2_nearestExit [.inr 1] σ Q := by
  refine CM_of_GO (by decide +kernel) rfl (Nat.le_of_ble_eq_true rfl) ?_
  show GO none mX2_nearestExit 0 [some (.inr 1), none, none, none] [] σ Q
  refine g_iconst dX2_nearestExit_0 (by decide) ?_
  refine g_istore_n (ls' := [some (.inr 1), some (.inl (-1)), none, none]) dX2_nearestExit_1 rfl (by decide) rfl ?_
  refine g_iconst dX2_nearestExit_2 (by decide) ?_
  refine g_istore_n (ls' := [some (.inr 1), some (.inl (-1)), some (.inl 0), none]) dX2_nearestExit_3 rfl (by decide) rfl ?_
  exact h
set_option maxRecDepth 100000 in
theorem rX2_nearestExit_4 {x1 x2 : Int}  {σ : Mem} {Q : Int → Mem → Prop} (h : (36 ≤ x2 → Q x1 σ) ∧ (x2 < 36 → ((0 ≤ x2) ∧ (((σ 3 (x2).toNat) ≠ 3 → ((inR (x2 + 1)) ∧ (GO none mX2_nearestExit 4 [some (.inr 1), some (.inl x1), some (.inl (x2 + 1)), none] [] σ Q))) ∧ ((σ 3 (x2).toNat) = 3 → ((σ 11 (x2).toNat) = (-1) → ((inR (x2 + 1)) ∧ (GO none mX2_nearestExit 4 [some (.inr 1), some (.inl x1), some (.inl (x2 + 1)), none] [] σ Q))) ∧ ((σ 11 (x2).toNat) ≠ (-1) → (x1 = (-1) → ((inR (x2 + 1)) ∧ (GO none mX2_nearestExit 4 [some (.inr 1), some (.inl (σ 11 (x2).toNat)), some (.inl (x2 + 1)), none] [] σ Q))) ∧ (x1 ≠ (-1) → (x1 ≤ (σ 11 (x2).toNat) → ((inR (x2 + 1)) ∧ (GO none mX2_nearestExit 4 [some (.inr 1), some (.inl x1), some (.inl (x2 + 1)), none] [] σ Q))) ∧ ((σ 11 (x2).toNat) < x1 → ((inR (x2 + 1)) ∧ (GO none mX2_nearestExit 4 [some (.inr 1), some (.inl (σ 11 (x2).toNat)), some (.inl (x2 + 1)), none] [] σ Q)))))))))) : GO none mX2_nearestExit 4 [some (.inr 1), some (.inl x1), some (.inl x2), none] [] σ Q := by
  refine g_iload_n dX2_nearestExit_4 rfl rfl ?_
  refine g_bipush dX2_nearestExit_5 (by decide) (by decide) ?_
  refine g_icmp_ge (tgt := 54) dX2_nearestExit_7 (by decide) (fun c1 => ?_) (fun c1 => ?_)
  · have h := h.1 c1
    refine g_iload_n dX2_nearestExit_54 rfl rfl ?_
    exact g_ireturn rfl dX2_nearestExit_55 h
  · have h := h.2 c1
    refine g_aload_n dX2_nearestExit_10 rfl rfl ?_
    refine g_getR (r' := 10) flX2_29 (by decide) rfl (by decide) rfl dX2_nearestExit_11 ?_
    refine g_iload_n dX2_nearestExit_14 rfl rfl ?_
    obtain ⟨p2, h⟩ := h
    refine g_invVI (as := [.inl x2]) (rest := []) okX7_get mlX2_45 (by decide) rfl ⟨_, _, rfl⟩ rfl ⟨Nat.le_of_ble_eq_true rfl, Nat.le_of_ble_eq_true rfl⟩ (Nat.le_of_ble_eq_true rfl) rfl dX2_nearestExit_15 (c_X7_get ⟨by decide, by decide, rfl, rfl, rfl⟩ p2 c1) (Or.inl rfl) (fun v3 σ4 e5 => ?_)
    obtain ⟨e5a, e5b⟩ := e5; subst v3; subst σ4
    refine g_istore_n (ls' := [some (.inr 1), some (.inl x1), some (.inl x2), some (.inl (σ 11 (x2).toNat))]) dX2_nearestExit_18 rfl (by decide) rfl ?_
    refine g_aload_n dX2_nearestExit_19 rfl rfl ?_
    refine g_getR (r' := 2) flX2_14 (by decide) rfl (by decide) rfl dX2_nearestExit_20 ?_
    refine g_iload_n dX2_nearestExit_23 rfl rfl ?_
    refine g_invVI (as := [.inl x2]) (rest := []) okX7_get mlX2_45 (by decide) rfl ⟨_, _, rfl⟩ rfl ⟨Nat.le_of_ble_eq_true rfl, Nat.le_of_ble_eq_true rfl⟩ (Nat.le_of_ble_eq_true rfl) rfl dX2_nearestExit_24 (c_X7_get ⟨by decide, by decide, rfl, rfl, rfl⟩ p2 c1) (Or.inl rfl) (fun v6 σ7 e8 => ?_)
    obtain ⟨e8a, e8b⟩ := e8; subst v6; subst σ7
    refine g_iconst dX2_nearestExit_27 (by decide) ?_
    refine g_icmp_ne (tgt := 48) dX2_nearestExit_28 (by decide) (fun c9 => ?_) (fun c9 => ?_)
    · have h := h.1 c9
      obtain ⟨p10, h⟩ := h
      refine g_iinc (ls' := [some (.inr 1), some (.inl x1), some (.inl (x2 + 1)), some (.inl (σ 11 (x2).toNat))]) dX2_nearestExit_48 (by decide) rfl p10 rfl ?_
      refine g_goto (tgt := 4) dX2_nearestExit_51 (by decide) ?_
      refine g_kill (i := 3) (ls' := [some (.inr 1), some (.inl x1), some (.inl (x2 + 1)), none]) rfl ?_
      exact h
    · have h := h.2 c9
      refine g_iload_n dX2_nearestExit_31 rfl rfl ?_
      refine g_iconst dX2_nearestExit_32 (by decide) ?_
      refine g_icmp_eq (tgt := 48) dX2_nearestExit_33 (by decide) (fun c11 => ?_) (fun c11 => ?_)
      · have h := h.1 c11
        obtain ⟨p12, h⟩ := h
        refine g_iinc (ls' := [some (.inr 1), some (.inl x1), some (.inl (x2 + 1)), some (.inl (σ 11 (x2).toNat))]) dX2_nearestExit_48 (by decide) rfl p12 rfl ?_
        refine g_goto (tgt := 4) dX2_nearestExit_51 (by decide) ?_
        refine g_kill (i := 3) (ls' := [some (.inr 1), some (.inl x1), some (.inl (x2 + 1)), none]) rfl ?_
        exact h
      · have h := h.2 c11
        refine g_iload_n dX2_nearestExit_36 rfl rfl ?_
        refine g_iconst dX2_nearestExit_37 (by decide) ?_
        refine g_icmp_eq (tgt := 46) dX2_nearestExit_38 (by decide) (fun c13 => ?_) (fun c13 => ?_)
        · have h := h.1 c13
          refine g_iload_n dX2_nearestExit_46 rfl rfl ?_
          refine g_istore_n (ls' := [some (.inr 1), some (.inl (σ 11 (x2).toNat)), some (.inl x2), some (.inl (σ 11 (x2).toNat))]) dX2_nearestExit_47 rfl (by decide) rfl ?_
          obtain ⟨p14, h⟩ := h
          refine g_iinc (ls' := [some (.inr 1), some (.inl (σ 11 (x2).toNat)), some (.inl (x2 + 1)), some (.inl (σ 11 (x2).toNat))]) dX2_nearestExit_48 (by decide) rfl p14 rfl ?_
          refine g_goto (tgt := 4) dX2_nearestExit_51 (by decide) ?_
          refine g_kill (i := 3) (ls' := [some (.inr 1), some (.inl (σ 11 (x2).toNat)), some (.inl (x2 + 1)), none]) rfl ?_
          exact h
        · have h := h.2 c13
          refine g_iload_n dX2_nearestExit_41 rfl rfl ?_
          refine g_iload_n dX2_nearestExit_42 rfl rfl ?_
          refine g_icmp_ge (tgt := 48) dX2_nearestExit_43 (by decide) (fun c15 => ?_) (fun c15 => ?_)
          · have h := h.1 c15
            obtain ⟨p16, h⟩ := h
            refine g_iinc (ls' := [some (.inr 1), some (.inl x1), some (.inl (x2 + 1)), some (.inl (σ 11 (x2).toNat))]) dX2_nearestExit_48 (by decide) rfl p16 rfl ?_
            refine g_goto (tgt := 4) dX2_nearestExit_51 (by decide) ?_
            refine g_kill (i := 3) (ls' := [some (.inr 1), some (.inl x1), some (.inl (x2 + 1)), none]) rfl ?_
            exact h
          · have h := h.2 c15
            refine g_iload_n dX2_nearestExit_46 rfl rfl ?_
            refine g_istore_n (ls' := [some (.inr 1), some (.inl (σ 11 (x2).toNat)), some (.inl x2), some (.inl (σ 11 (x2).toNat))]) dX2_nearestExit_47 rfl (by decide) rfl ?_
            obtain ⟨p17, h⟩ := h
            refine g_iinc (ls' := [some (.inr 1), some (.inl (σ 11 (x2).toNat)), some (.inl (x2 + 1)), some (.inl (σ 11 (x2).toNat))]) dX2_nearestExit_48 (by decide) rfl p17 rfl ?_
            refine g_goto (tgt := 4) dX2_nearestExit_51 (by decide) ?_
            refine g_kill (i := 3) (ls' := [some (.inr 1), some (.inl (σ 11 (x2).toNat)), some (.inl (x2 + 1)), none]) rfl ?_
            exact h
theorem c_X2_nearestExit {σ : Mem} : CM mX2_nearestExit [.inr 1] σ (fun v σ1 => v = nearF (eI (σ 3)) (σ 11) 36 ∧ σ1 = σ) := by
  have key : ∀ (d i : Nat), i + d = 36 → GO none mX2_nearestExit 4 [some (.inr 1), some (.inl (nearF (eI (σ 3)) (σ 11) i)), some (.inl (i : Int)), none] [] σ (fun v σ1 => v = nearF (eI (σ 3)) (σ 11) 36 ∧ σ1 = σ) := by
    intro d
    induction d with
    | zero =>
      intro i hd
      exact rX2_nearestExit_4 ⟨fun h => ⟨by rw [show i = 36 by omega], rfl⟩, fun h => by omega⟩
    | succ d ih =>
      intro i hd
      have hst := ih (i + 1) (by omega)
      have yes : eI (σ 3) i = true ∧ σ 11 i ≠ -1 ∧ (nearF (eI (σ 3)) (σ 11) i = -1 ∨ σ 11 i < nearF (eI (σ 3)) (σ 11) i) → nearF (eI (σ 3)) (σ 11) (i + 1) = σ 11 i := fun h => by
        rw [nearF, if_pos h]
      have no : ¬ (eI (σ 3) i = true ∧ σ 11 i ≠ -1 ∧ (nearF (eI (σ 3)) (σ 11) i = -1 ∨ σ 11 i < nearF (eI (σ 3)) (σ 11) i)) → nearF (eI (σ 3)) (σ 11) (i + 1) = nearF (eI (σ 3)) (σ 11) i := fun h => by
        rw [nearF, if_neg h]
      have e3 : eI (σ 3) i = true ↔ σ 3 i = 3 := by unfold eI; exact beq_iff_eq
      refine rX2_nearestExit_4 ⟨fun h => by omega, fun h => ⟨by omega, ?_⟩⟩
      rw [Int.toNat_natCast]
      refine ⟨fun a => ⟨by omega, ?_⟩, fun a => ⟨fun b => ⟨by omega, ?_⟩, fun b => ⟨fun c => ⟨by omega, ?_⟩, fun c => ⟨fun g => ⟨by omega, ?_⟩, fun g => ⟨by omega, ?_⟩⟩⟩⟩⟩
      · rw [no (fun q => a (e3.mp q.1))] at hst; exact hst
      · rw [no (fun q => q.2.1 b)] at hst; exact hst
      · rw [yes ⟨e3.mpr a, b, Or.inl c⟩] at hst; exact hst
      · rw [no (fun q => q.2.2.elim c (fun z => by omega))] at hst; exact hst
      · rw [yes ⟨e3.mpr a, b, Or.inr g⟩] at hst; exact hst
  exact rX2_nearestExit_0 (key 36 0 rfl)
/-- the ways of the first slots are told -/
def GM1 (K : Nat → Int) (n : Nat) (C W O : Nat → Int) (a : Nat) : Prop := ∃ f, IsD (cI K) (sI K) (C a).toNat f ∧ (∀ b, b < n → W (6 * a + b) = f (C b).toNat) ∧ O a = nearF (eI K) f 36
def MS (σ σ1 : Mem) : Prop := Same [1, 7, 9, 11, 13] σ σ1 ∧ ∀ j, j ≠ 6 → σ1 1 j = σ 1 j
theorem MS.tr {σ σ1 σ2 : Mem} (h : MS σ σ1) (h2 : MS σ1 σ2) : MS σ σ2 := ⟨h.1.tr h2.1, fun j hj => (h2.2 j hj).trans (h.2 j hj)⟩
set_option maxRecDepth 100000 in
theorem rX2_measure_0  {σ : Mem} {Q : Int → Mem → Prop} (h : GO none mX2_measure 2 [some (.inr 1), some (.inl 0), none] [] σ Q) : CM mX2_measure [.inr 1] σ Q := by
  refine CM_of_GO (by decide +kernel) rfl (Nat.le_of_ble_eq_true rfl) ?_
  show GO none mX2_measure 0 [some (.inr 1), none, none] [] σ Q
  refine g_iconst dX2_measure_0 (by decide) ?_
  refine g_istore_n (ls' := [some (.inr 1), some (.inl 0), none]) dX2_measure_1 rfl (by decide) rfl ?_
  exact h
set_option maxRecDepth 100000 in
theorem rX2_measure_2 {x1 : Int}  {σ : Mem} {Q : Int → Mem → Prop} (h : ((σ 1 7) ≤ x1 → Q 0 σ) ∧ (x1 < (σ 1 7) → ((0 ≤ x1) ∧ (((x1 < 6) ∧ (CM mX2_flood [.inr 1, .inl (σ 5 (x1).toNat)] σ (fun _ σ8 => GO none mX2_measure 24 [some (.inr 1), some (.inl x1), some (.inl 0)] [] σ8 Q))))))) : GO none mX2_measure 2 [some (.inr 1), some (.inl x1), none] [] σ Q := by
  refine g_iload_n dX2_measure_2 rfl rfl ?_
  refine g_aload_n dX2_measure_3 rfl rfl ?_
  refine g_getI flX2_39 (by decide) rfl (by decide) rfl dX2_measure_4 ?_
  refine g_icmp_ge (tgt := 84) dX2_measure_7 (by decide) (fun c1 => ?_) (fun c1 => ?_)
  · have h := h.1 c1
    exact g_return rfl dX2_measure_84 h
  · have h := h.2 c1
    refine g_aload_n dX2_measure_10 rfl rfl ?_
    refine g_aload_n dX2_measure_11 rfl rfl ?_
    refine g_getR (r' := 4) flX2_20 (by decide) rfl (by decide) rfl dX2_measure_12 ?_
    refine g_iload_n dX2_measure_15 rfl rfl ?_
    obtain ⟨p2, h⟩ := h
    obtain ⟨p3, h⟩ := h
    refine g_invVI (as := [.inl x1]) (rest := [.inr 1]) okX7_get mlX2_45 (by decide) rfl ⟨_, _, rfl⟩ rfl ⟨Nat.le_of_ble_eq_true rfl, Nat.le_of_ble_eq_true rfl⟩ (Nat.le_of_ble_eq_true rfl) rfl dX2_measure_16 (c_X7_get ⟨by decide, by decide, rfl, rfl, rfl⟩ p2 p3) (Or.inl rfl) (fun v4 σ5 e6 => ?_)
    obtain ⟨e6a, e6b⟩ := e6; subst v4; subst σ5
    refine g_invVV (as := [.inl (σ 5 (x1).toNat)]) (rest := []) okX2_flood mlX2_59 (by decide) rfl ⟨_, _, rfl⟩ rfl ⟨Nat.le_of_ble_eq_true rfl, Nat.le_of_ble_eq_true rfl⟩ (Nat.le_of_ble_eq_true rfl) rfl dX2_measure_19 h rfl (fun σ8 e9 => ?_)
    have h := e9
    refine g_iconst dX2_measure_22 (by decide) ?_
    refine g_istore_n (ls' := [some (.inr 1), some (.inl x1), some (.inl 0)]) dX2_measure_23 rfl (by decide) rfl ?_
    exact h
set_option maxRecDepth 100000 in
theorem rX2_measure_24 {x1 x2 : Int}  {σ : Mem} {Q : Int → Mem → Prop} (h : ((σ 1 7) ≤ x2 → CM mX2_nearestExit [.inr 1] σ (fun v2 σ3 => ((0 ≤ x1) ∧ (((x1 < 6) ∧ (((inR (x1 + 1)) ∧ (GO none mX2_measure 2 [some (.inr 1), some (.inl (x1 + 1)), none] [] (mu σ3 9 (x1).toNat v2) Q)))))))) ∧ (x2 < (σ 1 7) → ((inR (x1 * 6)) ∧ (((inR ((x1 * 6) + x2)) ∧ (((0 ≤ x2) ∧ (((x2 < 6) ∧ (((0 ≤ (σ 5 (x2).toNat)) ∧ ((((σ 5 (x2).toNat) < 36) ∧ (((0 ≤ ((x1 * 6) + x2)) ∧ (((((x1 * 6) + x2) < 36) ∧ (((inR (x2 + 1)) ∧ (GO none mX2_measure 24 [some (.inr 1), some (.inl x1), some (.inl (x2 + 1))] [] (mu σ 7 (((x1 * 6) + x2)).toNat (σ 11 ((σ 5 (x2).toNat)).toNat)) Q)))))))))))))))))))) : GO none mX2_measure 24 [some (.inr 1), some (.inl x1), some (.inl x2)] [] σ Q := by
  refine g_iload_n dX2_measure_24 rfl rfl ?_
  refine g_aload_n dX2_measure_25 rfl rfl ?_
  refine g_getI flX2_39 (by decide) rfl (by decide) rfl dX2_measure_26 ?_
  refine g_icmp_ge (tgt := 66) dX2_measure_29 (by decide) (fun c1 => ?_) (fun c1 => ?_)
  · have h := h.1 c1
    refine g_aload_n dX2_measure_66 rfl rfl ?_
    refine g_getR (r' := 8) flX2_26 (by decide) rfl (by decide) rfl dX2_measure_67 ?_
    refine g_iload_n dX2_measure_70 rfl rfl ?_
    refine g_aload_n dX2_measure_71 rfl rfl ?_
    refine g_invVI (as := []) (rest := [.inl x1, .inr 8]) okX2_nearestExit mlX2_62 (by decide) rfl ⟨_, _, rfl⟩ rfl ⟨Nat.le_of_ble_eq_true rfl, Nat.le_of_ble_eq_true rfl⟩ (Nat.le_of_ble_eq_true rfl) rfl dX2_measure_72 h (Or.inl rfl) (fun v2 σ3 e4 => ?_)
    have h := e4
    obtain ⟨p5, h⟩ := h
    obtain ⟨p6, h⟩ := h
    refine g_invVV (as := [.inl x1, .inl v2]) (rest := []) okX7_set mlX2_49 (by decide) rfl ⟨_, _, rfl⟩ rfl ⟨Nat.le_of_ble_eq_true rfl, Nat.le_of_ble_eq_true rfl⟩ (Nat.le_of_ble_eq_true rfl) rfl dX2_measure_75 (c_X7_set ⟨by decide, by decide, rfl, rfl, rfl⟩ p5 p6) rfl (fun σ8 e9 => ?_)
    subst σ8
    obtain ⟨p10, h⟩ := h
    refine g_iinc (ls' := [some (.inr 1), some (.inl (x1 + 1)), some (.inl x2)]) dX2_measure_78 (by decide) rfl p10 rfl ?_
    refine g_goto (tgt := 2) dX2_measure_81 (by decide) ?_
    refine g_kill (i := 2) (ls' := [some (.inr 1), some (.inl (x1 + 1)), none]) rfl ?_
    exact h
  · have h := h.2 c1
    refine g_aload_n dX2_measure_32 rfl rfl ?_
    refine g_getR (r' := 6) flX2_23 (by decide) rfl (by decide) rfl dX2_measure_33 ?_
    refine g_iload_n dX2_measure_36 rfl rfl ?_
    refine g_bipush dX2_measure_37 (by decide) (by decide) ?_
    obtain ⟨p11, h⟩ := h
    refine g_imul dX2_measure_39 p11 ?_
    refine g_iload_n dX2_measure_40 rfl rfl ?_
    obtain ⟨p12, h⟩ := h
    refine g_iadd dX2_measure_41 p12 ?_
    refine g_aload_n dX2_measure_42 rfl rfl ?_
    refine g_getR (r' := 10) flX2_29 (by decide) rfl (by decide) rfl dX2_measure_43 ?_
    refine g_aload_n dX2_measure_46 rfl rfl ?_
    refine g_getR (r' := 4) flX2_20 (by decide) rfl (by decide) rfl dX2_measure_47 ?_
    refine g_iload_n dX2_measure_50 rfl rfl ?_
    obtain ⟨p13, h⟩ := h
    obtain ⟨p14, h⟩ := h
    refine g_invVI (as := [.inl x2]) (rest := [.inr 10, .inl ((x1 * 6) + x2), .inr 6]) okX7_get mlX2_45 (by decide) rfl ⟨_, _, rfl⟩ rfl ⟨Nat.le_of_ble_eq_true rfl, Nat.le_of_ble_eq_true rfl⟩ (Nat.le_of_ble_eq_true rfl) rfl dX2_measure_51 (c_X7_get ⟨by decide, by decide, rfl, rfl, rfl⟩ p13 p14) (Or.inl rfl) (fun v15 σ16 e17 => ?_)
    obtain ⟨e17a, e17b⟩ := e17; subst v15; subst σ16
    obtain ⟨p18, h⟩ := h
    obtain ⟨p19, h⟩ := h
    refine g_invVI (as := [.inl (σ 5 (x2).toNat)]) (rest := [.inl ((x1 * 6) + x2), .inr 6]) okX7_get mlX2_45 (by decide) rfl ⟨_, _, rfl⟩ rfl ⟨Nat.le_of_ble_eq_true rfl, Nat.le_of_ble_eq_true rfl⟩ (Nat.le_of_ble_eq_true rfl) rfl dX2_measure_54 (c_X7_get ⟨by decide, by decide, rfl, rfl, rfl⟩ p18 p19) (Or.inl rfl) (fun v20 σ21 e22 => ?_)
    obtain ⟨e22a, e22b⟩ := e22; subst v20; subst σ21
    obtain ⟨p23, h⟩ := h
    obtain ⟨p24, h⟩ := h
    refine g_invVV (as := [.inl ((x1 * 6) + x2), .inl (σ 11 ((σ 5 (x2).toNat)).toNat)]) (rest := []) okX7_set mlX2_49 (by decide) rfl ⟨_, _, rfl⟩ rfl ⟨Nat.le_of_ble_eq_true rfl, Nat.le_of_ble_eq_true rfl⟩ (Nat.le_of_ble_eq_true rfl) rfl dX2_measure_57 (c_X7_set ⟨by decide, by decide, rfl, rfl, rfl⟩ p23 p24) rfl (fun σ26 e27 => ?_)
    subst σ26
    obtain ⟨p28, h⟩ := h
    refine g_iinc (ls' := [some (.inr 1), some (.inl x1), some (.inl (x2 + 1))]) dX2_measure_60 (by decide) rfl p28 rfl ?_
    refine g_goto (tgt := 24) dX2_measure_63 (by decide) ?_
    exact h
theorem c_X2_measure {n : Nat} {σ : Mem} (hn : σ 1 7 = n) (h6 : n ≤ 6) (hc : ∀ a, a < n → 0 ≤ σ 5 a ∧ σ 5 a < 36) : CM mX2_measure [.inr 1] σ (fun _ σ1 => (∀ a, a < n → GM1 (σ 3) n (σ 5) (σ1 7) (σ1 9) a) ∧ MS σ σ1) := by
  have inner : ∀ (d j i : Nat) (σ0 σ2 : Mem), j + d = n → i < n → MS σ σ2 → σ0 = setA σ2 7 (σ0 7) → IsD (cI (σ 3)) (sI (σ 3)) (σ 5 i).toNat (σ2 11) → (∀ b, b < j → σ0 7 (6 * i + b) = σ2 11 (σ 5 b).toNat) → (∀ z, (z < 6 * i ∨ 6 * i + 6 ≤ z) → σ0 7 z = σ2 7 z) → (∀ σ3, MS σ σ3 → GM1 (σ 3) n (σ 5) (σ3 7) (σ3 9) i → (∀ a, a ≠ i → a < n → (∀ b, b < n → σ3 7 (6 * a + b) = σ2 7 (6 * a + b)) ∧ σ3 9 a = σ2 9 a) → GO none mX2_measure 2 [some (.inr 1), some (.inl ((i : Int) + 1)), none] [] σ3 (fun _ σ1 => (∀ a, a < n → GM1 (σ 3) n (σ 5) (σ1 7) (σ1 9) a) ∧ MS σ σ1)) → GO none mX2_measure 24 [some (.inr 1), some (.inl (i : Int)), some (.inl (j : Int))] [] σ0 (fun _ σ1 => (∀ a, a < n → GM1 (σ 3) n (σ 5) (σ1 7) (σ1 9) a) ∧ MS σ σ1) := by
    intro d
    induction d with
    | zero =>
      intro j i σ0 σ2 hd hi hM e0 hD hw ho k
      have e3 : σ0 3 = σ 3 := by rw [e0, setA_ne (by decide)]; exact hM.1 3 (by decide)
      have e11 : σ0 11 = σ2 11 := by rw [e0, setA_ne (by decide)]
      have e9 : σ0 9 = σ2 9 := by rw [e0, setA_ne (by decide)]
      have e17 : σ0 1 7 = n := by rw [e0, setA_ne (by decide), hM.2 7 (by decide)]; exact hn
      refine rX2_measure_24 ⟨fun _ => ?_, fun h => by omega⟩
      refine CM.mono (fun v σ4 hv => ?_) c_X2_nearestExit
      obtain ⟨rfl, rfl⟩ := hv
      refine ⟨by omega, by omega, by omega, ?_⟩
      rw [Int.toNat_natCast]
      refine k _ ?_ ?_ ?_
      · refine hM.tr ⟨?_, fun q _ => ?_⟩
        · refine Same.tr ?_ (Same.mu (by decide))
          rw [e0]
          exact Same.setA (by decide)
        · rw [mu_nef (by decide), e0, setA_ne (by decide)]
      · refine ⟨σ2 11, hD, fun b hb => ?_, ?_⟩
        · rw [mu_nef (by decide)]; exact hw b (by omega)
        · rw [mu_at, if_pos rfl, e3, e11]
      · intro a ha han
        refine ⟨fun b hb => ?_, ?_⟩
        · rw [mu_nef (by decide)]; exact ho _ (by omega)
        · rw [mu_at, if_neg ha, e9]
    | succ d ih =>
      intro j i σ0 σ2 hd hi hM e0 hD hw ho k
      have e17 : σ0 1 7 = n := by rw [e0, setA_ne (by decide), hM.2 7 (by decide)]; exact hn
      have e5 : σ0 5 = σ 5 := by rw [e0, setA_ne (by decide)]; exact hM.1 5 (by decide)
      have e11 : σ0 11 = σ2 11 := by rw [e0, setA_ne (by decide)]
      have hcj := hc j (by omega)
      refine rX2_measure_24 ⟨fun h => by omega, fun _ => ?_⟩
      rw [e5, Int.toNat_natCast, show ((i : Int) * 6 + (j : Int)).toNat = 6 * i + j by omega, e11]
      refine ⟨by omega, by omega, by omega, by omega, hcj.1, hcj.2, by omega, by omega, by omega, ?_⟩
      refine ih (j + 1) i _ σ2 (by omega) hi hM ?_ hD (fun b hb => ?_) (fun z hz => ?_) k
      · rw [mu_setA, setA_eq]
        refine (?_ : setA σ0 7 _ = _)
        generalize fup (σ0 7) (6 * i + j) (σ2 11 (σ 5 j).toNat) = g
        rw [e0, setA_twice]
      · rw [mu_at]
        by_cases e : b = j
        · rw [if_pos (by omega), e]
        · rw [if_neg (by omega)]; exact hw b (by omega)
      · rw [mu_atn (by omega)]; exact ho z hz
  have key : ∀ (d i : Nat) (σ0 : Mem), i + d = n → MS σ σ0 → (∀ a, a < i → GM1 (σ 3) n (σ 5) (σ0 7) (σ0 9) a) → GO none mX2_measure 2 [some (.inr 1), some (.inl (i : Int)), none] [] σ0 (fun _ σ1 => (∀ a, a < n → GM1 (σ 3) n (σ 5) (σ1 7) (σ1 9) a) ∧ MS σ σ1) := by
    intro d
    induction d with
    | zero =>
      intro i σ0 hd hM hg
      have e17 : σ0 1 7 = n := by rw [hM.2 7 (by decide)]; exact hn
      exact rX2_measure_2 ⟨fun _ => ⟨fun a ha => hg a (by omega), hM⟩, fun h => by omega⟩
    | succ d ih =>
      intro i σ0 hd hM hg
      have e17 : σ0 1 7 = n := by rw [hM.2 7 (by decide)]; exact hn
      have e5 : σ0 5 = σ 5 := hM.1 5 (by decide)
      have e3 : σ0 3 = σ 3 := hM.1 3 (by decide)
      have hci := hc i (by omega)
      refine rX2_measure_2 ⟨fun h => by omega, fun _ => ⟨by omega, by omega, ?_⟩⟩
      rw [Int.toNat_natCast, e5]
      refine CM.mono (fun _ σ2 hq => ?_) (c_X2_flood hci.1 hci.2)
      obtain ⟨hD, hG⟩ := hq
      rw [e3] at hD
      have hM2 : MS σ σ2 := hM.tr ⟨hG.1.wk (by decide), hG.2⟩
      have e7 : σ2 7 = σ0 7 := hG.1 7 (by decide)
      have e9 : σ2 9 = σ0 9 := hG.1 9 (by decide)
      refine inner n 0 i σ2 σ2 (by omega) (by omega) hM2 setA_self.symm hD (fun b hb => by omega) (fun _ _ => rfl) (fun σ3 h1 h2 h3 => ?_)
      have := ih (i + 1) σ3 (by omega) h1 (fun a ha => ?_)
      · exact this
      · by_cases e : a = i
        · rw [e]; exact h2
        · obtain ⟨f, g1, g2, g3⟩ := hg a (by omega)
          have h4 := h3 a e (by omega)
          exact ⟨f, g1, fun b hb => by rw [h4.1 b hb, e7]; exact g2 b hb, by rw [h4.2, e9]; exact g3⟩
  exact rX2_measure_0 (key n 0 σ (by omega) ⟨Same.rf, fun _ _ => rfl⟩ (fun a ha => by omega))
set_option maxRecDepth 100000 in
theorem rX2_become_0 {x1 x2 : Int}  {σ : Mem} {Q : Int → Mem → Prop} (h : ((0 ≤ x1) ∧ (((x1 < 36) ∧ (CM mX2_measure [.inr 1] (mu σ 3 (x1).toNat x2) (fun _ σ7 => Q 0 σ7)))))) : CM mX2_become [.inr 1, .inl x1, .inl x2] σ Q := by
  refine CM_of_GO (by decide +kernel) rfl (Nat.le_of_ble_eq_true rfl) ?_
  show GO none mX2_become 0 [some (.inr 1), some (.inl x1), some (.inl x2)] [] σ Q
  refine g_aload_n dX2_become_0 rfl rfl ?_
  refine g_getR (r' := 2) flX2_14 (by decide) rfl (by decide) rfl dX2_become_1 ?_
  refine g_iload_n dX2_become_4 rfl rfl ?_
  refine g_iload_n dX2_become_5 rfl rfl ?_
  obtain ⟨p1, h⟩ := h
  obtain ⟨p2, h⟩ := h
  refine g_invVV (as := [.inl x1, .inl x2]) (rest := []) okX7_set mlX2_49 (by decide) rfl ⟨_, _, rfl⟩ rfl ⟨Nat.le_of_ble_eq_true rfl, Nat.le_of_ble_eq_true rfl⟩ (Nat.le_of_ble_eq_true rfl) rfl dX2_become_6 (c_X7_set ⟨by decide, by decide, rfl, rfl, rfl⟩ p1 p2) rfl (fun σ4 e5 => ?_)
  subst σ4
  refine g_aload_n dX2_become_9 rfl rfl ?_
  refine g_invVV (as := []) (rest := []) okX2_measure mlX2_53 (by decide) rfl ⟨_, _, rfl⟩ rfl ⟨Nat.le_of_ble_eq_true rfl, Nat.le_of_ble_eq_true rfl⟩ (Nat.le_of_ble_eq_true rfl) rfl dX2_become_10 h rfl (fun σ7 e8 => ?_)
  have h := e8
  exact g_return rfl dX2_become_13 h
set_option maxRecDepth 100000 in
theorem rX2_addSlot_0 {x1 : Int}  {σ : Mem} {Q : Int → Mem → Prop} (h : ((0 ≤ (σ 1 7)) ∧ ((((σ 1 7) < 6) ∧ (((inR ((σ 1 7) + 1)) ∧ (CM mX2_become [.inr 1, .inl x1, .inl 2] (mu (mu σ 5 ((σ 1 7)).toNat x1) 1 7 ((σ 1 7) + 1)) (fun _ σ8 => Q (σ 1 7) σ8)))))))) : CM mX2_addSlot [.inr 1, .inl x1] σ Q := by
  refine CM_of_GO (by decide +kernel) rfl (Nat.le_of_ble_eq_true rfl) ?_
  show GO none mX2_addSlot 0 [some (.inr 1), some (.inl x1), none] [] σ Q
  refine g_aload_n dX2_addSlot_0 rfl rfl ?_
  refine g_getI flX2_39 (by decide) rfl (by decide) rfl dX2_addSlot_1 ?_
  refine g_istore_n (ls' := [some (.inr 1), some (.inl x1), some (.inl (σ 1 7))]) dX2_addSlot_4 rfl (by decide) rfl ?_
  refine g_aload_n dX2_addSlot_5 rfl rfl ?_
  refine g_getR (r' := 4) flX2_20 (by decide) rfl (by decide) rfl dX2_addSlot_6 ?_
  refine g_iload_n dX2_addSlot_9 rfl rfl ?_
  refine g_iload_n dX2_addSlot_10 rfl rfl ?_
  obtain ⟨p1, h⟩ := h
  obtain ⟨p2, h⟩ := h
  refine g_invVV (as := [.inl (σ 1 7), .inl x1]) (rest := []) okX7_set mlX2_49 (by decide) rfl ⟨_, _, rfl⟩ rfl ⟨Nat.le_of_ble_eq_true rfl, Nat.le_of_ble_eq_true rfl⟩ (Nat.le_of_ble_eq_true rfl) rfl dX2_addSlot_11 (c_X7_set ⟨by decide, by decide, rfl, rfl, rfl⟩ p1 p2) rfl (fun σ4 e5 => ?_)
  subst σ4
  refine g_aload_n dX2_addSlot_14 rfl rfl ?_
  refine g_dup dX2_addSlot_15 ?_
  refine g_getI flX2_39 (by decide) rfl (by decide) rfl dX2_addSlot_16 ?_
  refine g_top (w := (σ 1 7)) rfl ?_
  refine g_iconst dX2_addSlot_19 (by decide) ?_
  obtain ⟨p6, h⟩ := h
  refine g_iadd dX2_addSlot_20 p6 ?_
  refine g_putI fpX2_39 (by decide) rfl (by decide) rfl (Or.inl rfl) dX2_addSlot_21 ?_
  refine g_aload_n dX2_addSlot_24 rfl rfl ?_
  refine g_iload_n dX2_addSlot_25 rfl rfl ?_
  refine g_iconst dX2_addSlot_26 (by decide) ?_
  refine g_invVV (as := [.inl x1, .inl 2]) (rest := []) okX2_become mlX2_56 (by decide) rfl ⟨_, _, rfl⟩ rfl ⟨Nat.le_of_ble_eq_true rfl, Nat.le_of_ble_eq_true rfl⟩ (Nat.le_of_ble_eq_true rfl) rfl dX2_addSlot_27 h rfl (fun σ8 e9 => ?_)
  have h := e9
  refine g_iload_n dX2_addSlot_30 rfl rfl ?_
  exact g_ireturn rfl dX2_addSlot_31 h
theorem c_X2_become {n : Nat} {x k : Int} {σ : Mem} (h0 : 0 ≤ x) (hx : x < 36) (hn : σ 1 7 = n) (h6 : n ≤ 6) (hc : ∀ a, a < n → 0 ≤ σ 5 a ∧ σ 5 a < 36) : CM mX2_become [.inr 1, .inl x, .inl k] σ (fun _ σ1 => (∀ a, a < n → GM1 (σ1 3) n (σ1 5) (σ1 7) (σ1 9) a) ∧ MS (mu σ 3 x.toNat k) σ1) := by
  refine rX2_become_0 ⟨h0, hx, ?_⟩
  refine CM.mono (fun _ σ1 hq => ?_) (c_X2_measure (n := n) (by rw [mu_nef (by decide)]; exact hn) h6 (fun a ha => by rw [mu_nef (by decide)]; exact hc a ha))
  obtain ⟨h1, h2⟩ := hq
  have e3 := h2.1 3 (by decide)
  have e5 := h2.1 5 (by decide)
  refine ⟨fun a ha => ?_, h2⟩
  rw [e3, e5]
  exact h1 a ha
theorem c_X2_addSlot {n : Nat} {x : Int} {σ : Mem} (h0 : 0 ≤ x) (hx : x < 36) (hn : σ 1 7 = n) (h6 : n < 6) (hc : ∀ a, a < n → 0 ≤ σ 5 a ∧ σ 5 a < 36) : CM mX2_addSlot [.inr 1, .inl x] σ (fun v σ1 => v = n ∧ (∀ a, a < n + 1 → GM1 (σ1 3) (n + 1) (σ1 5) (σ1 7) (σ1 9) a) ∧ MS (mu (mu (mu σ 5 n x) 1 7 (n + 1)) 3 x.toNat 2) σ1) := by
  refine rX2_addSlot_0 ⟨by omega, by omega, by omega, ?_⟩
  rw [hn, Int.toNat_natCast]
  refine CM.mono (fun _ σ1 hq => ⟨rfl, hq⟩) (c_X2_become (n := n + 1) h0 hx (by rw [mu_at, if_pos rfl]; rfl) (by omega) (fun a ha => ?_))
  rw [mu_nef (by decide), mu_at]
  by_cases e : a = n
  · rw [if_pos e]; exact ⟨h0, hx⟩
  · rw [if_neg e]; exact hc a (by omega)
