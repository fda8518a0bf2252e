/-! ===== the reference: plan, planned ===== -/
theorem c_X11_plan {Z Z' : Zt} {σ : Mem} {n v : Int} (hZ : GZ Z) (hM : MI Z σ) (hN : nxA Z (aPlan Z n) v Z') : CM mX11_plan [.inr 73, .inl n] σ (RQ σ v Z') := by
  obtain ⟨hA, rfl⟩ := hN
  refine rX11_plan_0 (CM.mono (fun w σ1 hq => ?_) c_X11_isSpan)
  obtain ⟨rfl, rfl⟩ := hq
  refine ⟨fun h => ?_, fun h => ?_⟩
  · have hn0 : 1 ≤ n ∧ n ≤ 4 := ite_yes h
    have hn : isN n := hn0
    have hn2 : 1 ≤ n ∧ n ≤ 4 := hn
    obtain ⟨k, rfl⟩ : ∃ k : Nat, n = k := ⟨n.toNat, by omega⟩
    have hv : plV (zD Z') k v := by
      rcases hA with ⟨-, w⟩ | ⟨w, -⟩
      · rw [Int.toNat_natCast] at w; exact w
      · exact absurd hn w
    have h720 := pE_len2 hZ
    refine CM.mono (fun _ σ2 hq => ?_) (c_X11_layPlans (n := k) hZ hM (by omega) (by omega) rfl)
    obtain ⟨hR, hT, hS⟩ := hq
    have hT0 := hT 0 (by omega)
    rw [show k - 1 - 0 = k - 1 by omega] at hT0
    have hM2 := hM.same hS (by decide)
    refine CM.mono (fun w σ3 hq => ?_) (c_X11_firstOf (y := 0) (g := bv (zD Z') (k - 1) 0) (f := bv (zD Z') (k - 1) 0) hZ hM2 hR hT0 (by omega) rfl (Or.inl ⟨rfl, rfl⟩))
    obtain ⟨hw, hS3⟩ := hq
    have hS13 : MSm [84, 85, 86, 87, 88, 92, 93, 94] σ1 σ3 := hS.tr ((MSm.same hS3 (by decide)).wk (by decide))
    unfold plV planP at hv
    rcases hw with ⟨rfl, hf⟩ | ⟨i, a, hi, rfl, hf⟩
    · rw [hf] at hv
      refine ⟨fun h => absurd rfl h, fun _ => RQ.stay hM hS13 (by decide) (by decide) ?_⟩
      rcases hv with ⟨-, z⟩ | z
      · exact z.symm
      · cases z
    · rw [hf] at hv
      have hfs := fmin_some hf
      refine ⟨fun _ => ⟨by omega, by omega, RQ.stay hM hS13 (by decide) (by decide) ?_⟩, fun h => by omega⟩
      rw [Int.toNat_natCast, hS3 93 (by decide)]
      have := (hT0 i hi).1
      rw [Nat.mul_zero, Nat.zero_add, hfs.2.1, encF_some] at this
      rw [this]
      rcases hv with ⟨z, -⟩ | z
      · cases z
      · cases z; rfl
  · have hn0 : ¬ (1 ≤ n ∧ n ≤ 4) := ite_no h
    have hn : ¬ isN n := hn0
    rcases hA with ⟨w, -⟩ | ⟨-, rfl⟩
    · exact absurd w hn
    · exact ⟨rfl, hM, Same.rf⟩
theorem c_X11_planned {Z Z' : Zt} {σ : Mem} {n y v : Int} (hZ : GZ Z) (hM : MI Z σ) (hN : nxA Z (aPlanned Z n y) v Z') : CM mX11_planned [.inr 73, .inl n, .inl y] σ (RQ σ v Z') := by
  obtain ⟨hA, rfl⟩ := hN
  refine rX11_planned_0 (CM.mono (fun w σ1 hq => ?_) c_X11_isSpan)
  obtain ⟨rfl, rfl⟩ := hq
  have bad : ¬ (isN n ∧ (0 ≤ y ∧ y < n)) → RQ σ1 v Z' (-2) σ1 := fun h => by
    rcases hA with ⟨w1, w2, -⟩ | ⟨-, rfl⟩
    · exact absurd ⟨w1, w2⟩ h
    · exact ⟨rfl, hM, Same.rf⟩
  refine ⟨fun h => bad (fun q => (ite_no h : ¬ (1 ≤ n ∧ n ≤ 4)) q.1), fun h => ?_⟩
  have hn0 : 1 ≤ n ∧ n ≤ 4 := ite_yes h
  have hn : isN n := hn0
  have hn2 : 1 ≤ n ∧ n ≤ 4 := hn
  refine ⟨by omega, fun hy => ?_, fun hy => bad (fun q => hy (by omega))⟩
  obtain ⟨k, rfl⟩ : ∃ k : Nat, n = k := ⟨n.toNat, by omega⟩
  obtain ⟨u, rfl⟩ : ∃ u : Nat, y = u := ⟨y.toNat, by omega⟩
  have hv : pdV (zD Z') k u v := by
    rcases hA with ⟨-, -, w⟩ | ⟨w, -⟩
    · rw [Int.toNat_natCast, Int.toNat_natCast] at w; exact w
    · exact absurd ⟨hn, by omega⟩ w
  have h720 := pE_len2 hZ
  refine CM.mono (fun _ σ2 hq => ?_) (c_X11_layPlans (n := k) hZ hM (by omega) (by omega) rfl)
  obtain ⟨hR, hT, hS⟩ := hq
  have hT0 := hT 0 (by omega)
  rw [show k - 1 - 0 = k - 1 by omega] at hT0
  have hM2 := hM.same hS (by decide)
  have last : ∀ (i : Nat) (σ3 : Mem), i < (pE (zD Z')).length → chn (zD Z') k u = some (pq (zD Z') i) → v = pldV (zD Z') k u → Same [88, 94] σ2 σ3 → ((i : Int) ≠ -1 → 0 ≤ (i : Int) ∧ (i : Int) < 720 ∧ CM mX11_layRow [.inr 73, .inl (σ3 92 (i : Int).toNat)] σ3 (fun v5 σ6 => CM mX11_toldOf [.inr 73] σ6 (fun v8 σ9 => RQ σ1 v Z' v8 σ9))) ∧ ((i : Int) = -1 → RQ σ1 v Z' (-1) σ3) := fun i σ3 hi hc hvv hS3 => by
    refine ⟨fun _ => ⟨by omega, by omega, ?_⟩, fun h => by omega⟩
    have hR3 := hR.same hS3 (by decide) (by decide)
    have hM3 := hM2.same (MSm.same hS3 (by decide)) (by decide)
    rw [Int.toNat_natCast]
    refine CM.mono (fun _ σ4 hq => ?_) (k_lay (i := i) hZ hM3 hi (hR3.2 i hi))
    obtain ⟨q1, q2⟩ := hq
    have hp := pE_ok (pq_mem hi)
    refine CM.mono (fun w σ5 hq => ?_) (c_X11_toldOf hZ (hM3.same (MSm.same q2 (by decide)) (by decide)) hp.1 (okP.s6 hZ hp.2) q1)
    obtain ⟨rfl, rfl⟩ := hq
    refine RQ.stay (S := [84, 85, 86, 87, 88, 92, 93, 94]) hM ((hS.tr ((MSm.same hS3 (by decide)).wk (by decide))).tr ((MSm.same q2 (by decide)).wk (by decide))) (by decide) (by decide) ?_
    rw [hvv]
    unfold pldV
    rw [hc]
  have loop : ∀ (d t i : Nat) (σ3 : Mem), t + d = u → i < (pE (zD Z')).length → planP (zD Z') k ≠ none → chn (zD Z') k t = some (pq (zD Z') i) → v = pldV (zD Z') k u → Same [88, 94] σ2 σ3 → GO none mX11_planned 36 [some (.inr 73), some (.inl (k : Int)), some (.inl (u : Int)), some (.inl (i : Int)), some (.inl ((t : Int) + 1))] [] σ3 (RQ σ1 v Z') := by
    intro d
    induction d with
    | zero =>
      intro t i σ3 hd hi hp hc hvv hS3
      have e : t = u := by omega
      subst e
      exact rX11_planned_36 ⟨fun _ => last i σ3 hi hc hvv hS3, fun h => by omega⟩
    | succ d ih =>
      intro t i σ3 hd hi hp hc hvv hS3
      refine rX11_planned_36 ⟨fun h => by omega, fun _ => ⟨fun h => by omega, fun _ => ?_⟩⟩
      have hM3 := hM2.same (MSm.same hS3 (by decide)) (by decide)
      have hTt : PT Z' (bv (zD Z') (k - 2 - t) (t + 1)) (t + 1) σ3 := fun j hj => by
        have := hT (t + 1) (by omega) j hj
        rw [show k - 1 - (t + 1) = k - 2 - t by omega] at this
        rw [hS3 93 (by decide)]
        exact this
      refine CM.mono (fun w σ4 hq => ?_) (c_X11_firstOf (y := t + 1) (g := bv (zD Z') (k - 2 - t) (t + 1)) (f := fun q => (bv (zD Z') (k - 2 - t) (t + 1) q).map (· + mvL (dV (zD Z')) (pq (zD Z') i) q)) hZ hM3 (hR.same hS3 (by decide) (by decide)) hTt (by omega) (by omega) (Or.inr ⟨i, hi, rfl, rfl⟩))
      obtain ⟨hw, hS4⟩ := hq
      have hcn : chn (zD Z') k (t + 1) = (fmin (fun q => (bv (zD Z') (k - 2 - t) (t + 1) q).map (· + mvL (dV (zD Z')) (pq (zD Z') i) q)) (pE (zD Z'))).map (·.2) := by
        conv => lhs; unfold chn
        rw [hc]
      obtain ⟨c, v0, hck, -⟩ := chn_ok hp (t + 1) (by omega)
      rcases hw with ⟨rfl, hf⟩ | ⟨i2, a, hi2, rfl, hf⟩
      · rw [hcn, hf] at hck
        cases hck
      · refine ⟨by omega, ?_⟩
        have := ih (t + 1) i2 σ4 (by omega) hi2 hp (by rw [hcn, hf]; rfl) hvv (hS3.tr hS4)
        exact this
  refine CM.mono (fun w σ3 hq => ?_) (c_X11_firstOf (y := 0) (g := bv (zD Z') (k - 1) 0) (f := bv (zD Z') (k - 1) 0) hZ hM2 hR hT0 (by omega) rfl (Or.inl ⟨rfl, rfl⟩))
  obtain ⟨hw, hS3⟩ := hq
  rcases hw with ⟨rfl, hf⟩ | ⟨i, a, hi, rfl, hf⟩
  · have hnone : planP (zD Z') k = none := by unfold planP; rw [hf]; rfl
    have hv1 : v = -1 := by
      rcases hv with ⟨-, z⟩ | ⟨z, -⟩
      · exact z
      · exact absurd hnone z
    have fin : RQ σ1 v Z' (-1) σ3 := RQ.stay hM (hS.tr ((MSm.same hS3 (by decide)).wk (by decide))) (by decide) (by decide) hv1.symm
    exact rX11_planned_36 ⟨fun _ => ⟨fun h => absurd rfl h, fun _ => fin⟩, fun _ => ⟨fun _ => ⟨fun h => absurd rfl h, fun _ => fin⟩, fun h => absurd rfl h⟩⟩
  · have hp : planP (zD Z') k ≠ none := by unfold planP; rw [hf]; exact (fun z => by cases z)
    have hvv : v = pldV (zD Z') k u := by
      rcases hv with ⟨z, -⟩ | ⟨-, z⟩
      · exact absurd z hp
      · exact z
    exact loop u 0 i σ3 (by omega) hi hp (by unfold chn; rw [hf]; rfl) hvv hS3
