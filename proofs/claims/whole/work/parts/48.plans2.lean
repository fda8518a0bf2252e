/-! ===== the reference: the table of plans ===== -/
def lpQ (Z : Zt) (n : Nat) (σ : Mem) (_ : Int) (σ1 : Mem) : Prop := RM Z σ1 ∧ (∀ y, y < n → PT Z (bv (zD Z) (n - 1 - y) y) y σ1) ∧ MSm [84, 85, 86, 87, 88, 92, 93, 94] σ σ1
/-- the places among the first numbers -/
def rK (D : Dt) (k : Nat) : List (List Nat) := ((List.range k).map (dig (dm D))).filter (vB (dn D))
theorem rK_yes {D : Dt} {k : Nat} (h : okP (dn D) (dig (dm D) k)) : rK D (k + 1) = rK D k ++ [dig (dm D) k] := by
  unfold rK
  rw [List.range_succ, List.map_append, List.filter_append, List.map_singleton, List.filter_cons_of_pos ((vB_iff _).mpr h)]
  rfl
theorem rK_no {D : Dt} {k : Nat} (h : ¬ okP (dn D) (dig (dm D) k)) : rK D (k + 1) = rK D k := by
  unfold rK
  rw [List.range_succ, List.map_append, List.filter_append, List.map_singleton, List.filter_cons_of_neg (fun q => h ((vB_iff _).mp q))]
  exact List.append_nil _
theorem rK_le {D : Dt} (k : Nat) : ∀ d, (rK D k).length ≤ (rK D (k + d)).length
  | 0 => Nat.le_refl _
  | d + 1 => by
    have := rK_le (D := D) k d
    show _ ≤ (rK D (k + d + 1)).length
    by_cases h : okP (dn D) (dig (dm D) (k + d))
    · rw [rK_yes h, List.length_append]; omega
    · rw [rK_no h]; exact this
theorem bv_zero {D : Dt} {y : Nat} {p : List Nat} : bv D 0 y p = if cost D y p = -1 then none else some (cost D y p) := by unfold bv; rfl
theorem bv_succ {D : Dt} {k y : Nat} {p : List Nat} : bv D (k + 1) y p = if cost D y p = -1 then none else match fmin (fun q => (bv D k (y + 1) q).map (· + mvL (dV D) p q)) (pE D) with
    | none => none
    | some a => some (cost D y p + a.1) := by rw [bv]; rfl
theorem bv_ok {Z : Zt} (hZ : GZ Z) {n y : Nat} (hn : n ≤ 4) (hy : y < n) {p : List Nat} (hp : p ∈ pE (zD Z)) : ∀ v, bv (zD Z) (n - 1 - y) y p = some v → 0 ≤ v ∧ v ≤ 360000 := fun v hv => by
  have := bv_bd hZ.wf (n - 1 - y) y p v (by omega) hp hv
  have : ((n - 1 - y : Nat) : Int) ≤ 3 := by omega
  omega
theorem c_X11_layPlans {Z : Zt} {σ : Mem} {n : Nat} {x1 : Int} (hZ : GZ Z) (hM : MI Z σ) (h1 : 1 ≤ n) (h4 : n ≤ 4) (e1 : x1 = n) : CM mX11_layPlans [.inr 73, .inl x1] σ (lpQ Z n σ) := by
  subst e1
  have h5 := hZ.m5
  have h720 := pE_len2 hZ
  have years : ∀ (Y : Nat) (σ0 : Mem), Y ≤ n → RM Z σ0 → ML Z σ0 → (∀ y, Y ≤ y → y < n → PT Z (bv (zD Z) (n - 1 - y) y) y σ0) → MSm [84, 85, 86, 87, 88, 92, 93, 94] σ σ0 → GO none mX11_layPlans 59 [some (.inr 73), some (.inl (n : Int)), none, some (.inl ((Y : Int) - 1)), none, none, none, none, none] [] σ0 (lpQ Z n σ) := by
    intro Y
    induction Y with
    | zero =>
      intro σ0 hY hR hL hT hS
      exact rX11_layPlans_59 ⟨fun _ => ⟨hR, fun y hy => hT y (Nat.zero_le _) hy, hS⟩, fun h => by omega⟩
    | succ y ihY =>
      intro σ0 hY hR hL hT hS
      refine rX11_layPlans_59 ⟨fun h => by omega, fun _ => ?_⟩
      rw [show (((y + 1 : Nat) : Int) - 1) = (y : Int) by omega]
      have rows : ∀ (d i : Nat) (σ0 : Mem), i + d = (pE (zD Z)).length → RM Z σ0 → ML Z σ0 → (∀ y', y + 1 ≤ y' → y' < n → PT Z (bv (zD Z) (n - 1 - y') y') y' σ0) → (∀ j, j < i → σ0 93 (720 * y + j) = encF (bv (zD Z) (n - 1 - y) y (pq (zD Z) j))) → MSm [84, 85, 86, 87, 88, 92, 93, 94] σ σ0 → GO none mX11_layPlans 66 [some (.inr 73), some (.inl (n : Int)), none, some (.inl (y : Int)), some (.inl (i : Int)), none, none, none, none] [] σ0 (lpQ Z n σ) := by
        intro d
        induction d with
        | zero =>
          intro i σ0 hd hR hL hT hrow hS
          refine rX11_layPlans_66 ⟨fun _ => ⟨by omega, ?_⟩, fun h => by have := hR.1; omega⟩
          rw [show ((y : Int) + -1) = (y : Int) - 1 by omega]
          refine ihY σ0 (by omega) hR hL (fun y' hy1 hy2 => ?_) hS
          by_cases e : y' = y
          · subst e
            exact fun j hj => ⟨hrow j (by omega), bv_ok hZ h4 hy2 (pq_mem hj)⟩
          · exact hT y' (by omega) hy2
        | succ d ih =>
          intro i σ0 hd hR hL hT hrow hS
          have hi : i < (pE (zD Z)).length := by omega
          have hR1 := hR.1
          have hpi := pE_ok (pq_mem hi)
          refine rX11_layPlans_66 ⟨fun h => by omega, fun _ => ⟨by omega, by omega, ?_⟩⟩
          rw [Int.toNat_natCast]
          refine CM.mono (fun _ σ1 hq => ?_) (k_lay (i := i) hZ (hM.same hS (by decide)) hi (hR.2 i hi))
          obtain ⟨hh, hSa⟩ := hq
          have hS1 := hS.tr ((MSm.same hSa (by decide)).wk (by decide))
          refine CM.mono (fun own σ2 hq => ?_) (c_X11_costOf (p := pq (zD Z) i) (y := y) hZ (hM.same hS1 (by decide)) (hL.same hSa (by decide) (by decide)) hpi.1 hpi.2.1 hh (by omega) rfl)
          obtain ⟨rfl, rfl⟩ := hq
          have hcb := cM_bd hZ (y := y) (by omega) hpi.1 hpi.2.1
          -- what is written
          have next : ∀ (σ3 : Mem) (w : Int), Same [88, 94] σ0 σ3 → w = encF (bv (zD Z) (n - 1 - y) y (pq (zD Z) i)) → GO none mX11_layPlans 66 [some (.inr 73), some (.inl (n : Int)), none, some (.inl (y : Int)), some (.inl ((i : Int) + 1)), none, none, none, none] [] (mu σ3 93 (720 * (y : Int) + (i : Int)).toNat w) (lpQ Z n σ) := fun σ3 w hS3 hw => by
            rw [show (720 * (y : Int) + (i : Int)).toNat = 720 * y + i by omega]
            have hSw : Same [88, 93, 94] σ0 (mu σ3 93 (720 * y + i) w) := (hS3.wk (by decide)).tr (Same.mu (by decide))
            refine ih (i + 1) _ (by omega) (hR.same hSw (by decide) (by decide)) (hL.same hSw (by decide) (by decide)) (fun y' hy1 hy2 j hj => ?_) (fun j hj => ?_) (hS.tr ((MSm.same hSw (by decide)).wk (by decide)))
            · rw [mu_atn (by omega), hS3 93 (by decide)]
              exact hT y' hy1 hy2 j hj
            · rw [mu_at]
              by_cases e : j = i
              · rw [if_pos (by omega), e]; exact hw
              · rw [if_neg (by omega), hS3 93 (by decide)]; exact hrow j (by omega)
          have fin : ∀ (σ3 : Mem) (x6 : Int), Same [88, 94] σ0 σ3 → (0 ≤ x6 ∧ x6 ≤ 100000000) → (cM (zD Z) y (pq (zD Z) i) ≠ 100000000 → encF (bv (zD Z) (n - 1 - y) y (pq (zD Z) i)) = if x6 = 100000000 then 100000000 else cM (zD Z) y (pq (zD Z) i) + x6) → (inR (720 * (y : Int)) ∧ inR (720 * (y : Int) + (i : Int)) ∧ ((cM (zD Z) y (pq (zD Z) i) = 100000000 → 0 ≤ 720 * (y : Int) + (i : Int) ∧ 720 * (y : Int) + (i : Int) < 2880 ∧ inR ((i : Int) + 1) ∧ GO none mX11_layPlans 66 [some (.inr 73), some (.inl (n : Int)), none, some (.inl (y : Int)), some (.inl ((i : Int) + 1)), none, none, none, none] [] (mu σ3 93 (720 * (y : Int) + (i : Int)).toNat 100000000) (lpQ Z n σ)) ∧ (cM (zD Z) y (pq (zD Z) i) ≠ 100000000 → (x6 ≠ 100000000 → inR (cM (zD Z) y (pq (zD Z) i) + x6) ∧ 0 ≤ 720 * (y : Int) + (i : Int) ∧ 720 * (y : Int) + (i : Int) < 2880 ∧ inR ((i : Int) + 1) ∧ GO none mX11_layPlans 66 [some (.inr 73), some (.inl (n : Int)), none, some (.inl (y : Int)), some (.inl ((i : Int) + 1)), none, none, none, none] [] (mu σ3 93 (720 * (y : Int) + (i : Int)).toNat (cM (zD Z) y (pq (zD Z) i) + x6)) (lpQ Z n σ)) ∧ (x6 = 100000000 → 0 ≤ 720 * (y : Int) + (i : Int) ∧ 720 * (y : Int) + (i : Int) < 2880 ∧ inR ((i : Int) + 1) ∧ GO none mX11_layPlans 66 [some (.inr 73), some (.inl (n : Int)), none, some (.inl (y : Int)), some (.inl ((i : Int) + 1)), none, none, none, none] [] (mu σ3 93 (720 * (y : Int) + (i : Int)).toNat 100000000) (lpQ Z n σ))))) := fun σ3 x6 hS3 hx hv => by
            refine ⟨by omega, by omega, fun h => ⟨by omega, by omega, by omega, next σ3 _ hS3 ?_⟩, fun h => ⟨fun h2 => ⟨by omega, by omega, by omega, by omega, next σ3 _ hS3 ?_⟩, fun h2 => ⟨by omega, by omega, by omega, next σ3 _ hS3 ?_⟩⟩⟩
            · have hc : cost (zD Z) y (pq (zD Z) i) = -1 := by omega
              cases hk : n - 1 - y with
              | zero => rw [bv_zero, if_pos hc]; rfl
              | succ k => rw [bv_succ, if_pos hc]; rfl
            · rw [hv h, if_neg h2]
            · rw [hv h, if_pos h2]
          refine ⟨by omega, fun hne => ?_, fun heq => ?_⟩
          · -- a year before the last
            obtain ⟨k, hk⟩ : ∃ k, n - 1 - y = k + 1 := ⟨n - 2 - y, by omega⟩
            have hTy := hT (y + 1) (Nat.le_refl _) (by omega)
            rw [show n - 1 - (y + 1) = k by omega] at hTy
            have inner : ∀ (e j : Nat) (x3 x6 : Int) (σ3 : Mem), j + e = (pE (zD Z)).length → Same [88, 94] σ0 σ3 → stR (zD Z) (fun q => (bv (zD Z) k (y + 1) q).map (· + mvL (dV (zD Z)) (pq (zD Z) i) q)) j x3 x6 → GO none mX11_layPlans 112 [some (.inr 73), some (.inl (n : Int)), none, some (.inl (y : Int)), some (.inl (i : Int)), some (.inl (cM (zD Z) y (pq (zD Z) i))), some (.inl x6), some (.inl (j : Int)), none] [] σ3 (lpQ Z n σ) := by
              intro e
              induction e with
              | zero =>
                intro j x3 x6 σ3 he hS3 hst
                have hR3 := (hR.same hS3 (by decide) (by decide)).1
                refine rX11_layPlans_112 ⟨fun _ => fin σ3 x6 hS3 hst.le (fun hc => ?_), fun h => by omega⟩
                have hj : j = (pE (zD Z)).length := by omega
                rw [hk, bv_succ, if_neg (by omega)]
                unfold stR at hst
                rw [hj, ffo_all] at hst
                rcases hst with ⟨s1, -, s3⟩ | ⟨q, a, -, s1, -, s3, s4, s5⟩
                · rw [s1, if_pos s3]; rfl
                · rw [s1, if_neg (by omega)]
                  show cost (zD Z) y (pq (zD Z) i) + a = _
                  omega
              | succ e ihe =>
                intro j x3 x6 σ3 he hS3 hst
                have hRM3 := hR.same hS3 (by decide) (by decide)
                have hR3 := hRM3.1
                have hj : j < (pE (zD Z)).length := by omega
                have hx6 := hst.le
                obtain ⟨t1, t2⟩ := hTy j hj
                have e93 : σ3 93 (720 * (y + 1) + j) = encF (bv (zD Z) k (y + 1) (pq (zD Z) j)) := by rw [hS3 93 (by decide)]; exact t1
                refine rX11_layPlans_112 ⟨fun h => by omega, fun _ => ⟨by omega, fun h => by omega, fun _ => ⟨fun h => fin σ3 x6 hS3 hx6 (fun hc => by omega), fun hown => ?_⟩⟩⟩
                rw [show (720 * ((y : Int) + 1) + (j : Int)).toNat = 720 * (y + 1) + j by omega, e93]
                cases hg : bv (zD Z) k (y + 1) (pq (zD Z) j) with
                | none =>
                  rw [encF_none]
                  have hfn : (fun q => (bv (zD Z) k (y + 1) q).map (· + mvL (dV (zD Z)) (pq (zD Z) i) q)) (pq (zD Z) j) = Option.none := by
                    show (bv (zD Z) k (y + 1) (pq (zD Z) j)).map _ = _
                    rw [hg]; rfl
                  exact ⟨by omega, by omega, by omega, by omega, by omega, fun h => absurd rfl h, fun _ => ⟨fun _ => ⟨by omega, ihe (j + 1) x3 x6 σ3 (by omega) hS3 (hst.none hj hfn)⟩, fun h => by omega⟩⟩
                | some v =>
                  have hv := t2 v hg
                  rw [encF_some]
                  refine ⟨by omega, by omega, by omega, by omega, by omega, fun _ => ?_, fun h => by omega⟩
                  have hS3' := hS.tr ((MSm.same hS3 (by decide)).wk (by decide))
                  refine CM.mono (fun w σ4 hq => ?_) (c_X11_changed (i := i) (j := j) hZ (hM.same hS3' (by decide)) hRM3 hi hj rfl rfl)
                  obtain ⟨rfl, hS4⟩ := hq
                  have hmb := mvL_bdD hZ.wf (q := pq (zD Z) j) hpi.1
                  have hfv : (fun q => (bv (zD Z) k (y + 1) q).map (· + mvL (dV (zD Z)) (pq (zD Z) i) q)) (pq (zD Z) j) = some (v + mvL (dV (zD Z)) (pq (zD Z) i) (pq (zD Z) j)) := by
                    show (bv (zD Z) k (y + 1) (pq (zD Z) j)).map _ = _
                    rw [hg]; rfl
                  exact ⟨by omega, fun h => ⟨by omega, ihe (j + 1) x3 x6 σ4 (by omega) (hS3.tr hS4) (hst.keep hj hfv h (by omega))⟩, fun h => ⟨by omega, ihe (j + 1) j _ σ4 (by omega) (hS3.tr hS4) (hst.new hj hfv h (by omega) (by omega))⟩⟩
            exact inner (pE (zD Z)).length 0 (-1) 100000000 σ2 (by omega) (hSa.wk (by decide)) stR.zero
          · -- the last year
            have hk : n - 1 - y = 0 := by omega
            have hv : cM (zD Z) y (pq (zD Z) i) ≠ 100000000 → encF (bv (zD Z) (n - 1 - y) y (pq (zD Z) i)) = if (0 : Int) = 100000000 then 100000000 else cM (zD Z) y (pq (zD Z) i) + 0 := fun hc => by
              rw [hk, bv_zero, if_neg (by omega), if_neg (by omega), encF_some]
              omega
            have hf := fin σ2 0 (hSa.wk (by decide)) (by omega) hv
            exact rX11_layPlans_112 ⟨fun _ => hf, fun _ => ⟨by omega, fun _ => hf, fun h => by omega⟩⟩
      exact rows (pE (zD Z)).length 0 σ0 (by omega) hR hL (fun y' hy1 hy2 => hT y' hy1 hy2) (fun j hj => by omega) hS
  have first : ∀ (d k : Nat) (σ0 : Mem), k + d = 6 ^ dm (zD Z) → ML Z σ0 → MSm [84, 85, 86, 87, 88, 92, 93, 94] σ σ0 → σ0 73 26 = (rK (zD Z) k).length → (∀ i (h : i < (rK (zD Z) k).length), σ0 92 i = nm (rK (zD Z) k)[i]) → GO none mX11_layPlans 16 [some (.inr 73), some (.inl (n : Int)), some (.inl ((6 ^ dm (zD Z) : Nat) : Int)), some (.inl (k : Int)), none, none, none, none, none] [] σ0 (lpQ Z n σ) := by
    intro d
    have hp6 := pow6_le h5
    have hrall : rK (zD Z) (6 ^ dm (zD Z)) = pE (zD Z) := rfl
    generalize hSS : 6 ^ dm (zD Z) = S at *
    induction d with
    | zero =>
      intro k σ0 hd hL hS h26 h92
      have e : k = S := by omega
      subst e
      rw [hrall] at h26 h92
      refine rX11_layPlans_16 ⟨fun _ => ⟨by omega, ?_⟩, fun h => by omega⟩
      exact years n σ0 (Nat.le_refl _) ⟨h26, fun i hi => by rw [pq_eq hi]; exact h92 i hi⟩ hL (fun y h1 h2 => by omega) hS
    | succ d ih =>
      intro k σ0 hd hL hS h26 h92
      have hk : k < 6 ^ dm (zD Z) := by omega
      refine rX11_layPlans_16 ⟨fun h => by omega, fun _ => CM.mono (fun v σ1 hq => ?_) (c_X11_layRow hZ (hM.same hS (by decide)) hk rfl)⟩
      obtain ⟨hv, -, hSa⟩ := hq
      have hS1 := hS.tr ((MSm.same hSa (by decide)).wk (by decide))
      have hL1 := hL.same hSa (by decide) (by decide)
      have e26 : σ1 73 26 = (rK (zD Z) k).length := by rw [hSa 73 (by decide)]; exact h26
      have e92 : σ1 92 = σ0 92 := hSa 92 (by decide)
      refine ⟨fun h0 => ⟨by omega, ?_⟩, fun h0 => ?_⟩
      · have hno := (hv.resolve_left (fun z => by omega)).2
        have hr := rK_no hno
        refine ih (k + 1) σ1 (by omega) hL1 hS1 (by rw [hr]; exact e26) (fun i hi => ?_)
        have hi2 : i < (rK (zD Z) k).length := by rw [hr] at hi; exact hi
        rw [e92, h92 i hi2]
        congr 1
        congr 1
        simp only [hr]
      · have hyes := (hv.resolve_right (fun z => h0 z.1)).2
        have hr := rK_yes hyes
        have hll : (rK (zD Z) (k + 1)).length = (rK (zD Z) k).length + 1 := by rw [hr, List.length_append, List.length_singleton]
        have hle := rK_le (D := zD Z) (k + 1) (S - (k + 1))
        rw [show k + 1 + (S - (k + 1)) = S by omega, hrall] at hle
        have hnk := nm_dig (dm (zD Z)) k hk
        rw [e26, Int.toNat_natCast]
        refine ⟨by omega, by omega, by omega, by omega, ?_⟩
        refine ih (k + 1) _ (by omega) ((hL1.same (Same.mu (S := [92]) (by decide)) (by decide) (by decide)).same (Same.mu (S := [73]) (by decide)) (by decide) (by decide)) ((hS1.tr (MSm.up (by decide) (by decide))).tr (MSm.up73 (by omega))) (by rw [mu_at, if_pos rfl, hll]; rfl) (fun i hi => ?_)
        rw [mu_nef (by decide), mu_at]
        have hget : (rK (zD Z) (k + 1))[i] = (rK (zD Z) k ++ [dig (dm (zD Z)) k])[i]'(by rw [hr] at hi; exact hi) := by simp only [hr]
        rw [hget]
        by_cases e : i = (rK (zD Z) k).length
        · subst e
          rw [if_pos rfl, List.getElem_append_right (Nat.le_refl _)]
          simp only [Nat.sub_self, List.getElem_cons_zero]
          rw [hnk]
        · rw [if_neg e, e92, List.getElem_append_left (by omega)]
          exact h92 i (by omega)
  refine rX11_layPlans_0 (CM.mono (fun _ σ1 hq => ?_) (c_X11_layFloor hZ hM))
  obtain ⟨hL, hS⟩ := hq
  have hS1 : MSm [84, 85, 86, 87, 88, 92, 93, 94] σ (mu σ1 73 26 0) := ((MSm.same hS (by decide)).wk (by decide)).tr (MSm.up73 (by omega))
  refine CM.mono (fun v σ2 hq => ?_) (c_X11_allNumbers hZ (hM.same hS1 (by decide)))
  obtain ⟨rfl, rfl⟩ := hq
  exact first (6 ^ dm (zD Z)) 0 _ (by omega) (hL.same (Same.mu (S := [73]) (by decide)) (by decide) (by decide)) hS1 (by rw [mu_at, if_pos rfl]; rfl) (fun i hi => by cases hi)
