/-! ===== what a call stands on and leaves: kinds, the slots' cells, the problem, the places at hand ===== -/
abbrev Zt : Type := (Nat → Int) × (Nat → Int) × Dt × List Nat
def zK (Z : Zt) : Nat → Int := Z.1
def zC (Z : Zt) : Nat → Int := Z.2.1
def zD (Z : Zt) : Dt := Z.2.2.1
def zh (Z : Zt) : List Nat := Z.2.2.2
def WY (K C : Nat → Int) (n : Nat) (W : Nat → Nat → Int) (O : Nat → Int) : Prop := ∀ a, a < n → ∃ f, IsD (cI K) (sI K) (C a).toNat f ∧ (∀ b, b < n → W a b = f (C b).toNat) ∧ O a = nearF (eI K) f 36
def GC (K C : Nat → Int) (n : Nat) : Prop := ∀ a, a < n → 0 ≤ C a ∧ C a < 36 ∧ K (C a).toNat = 2
def GZ (Z : Zt) : Prop := WF (zD Z) ∧ (zh Z).length = dm (zD Z) ∧ okP (dn (zD Z)) (zh Z) ∧ (∀ c, c < 36 → 0 ≤ zK Z c ∧ zK Z c ≤ 3) ∧ GC (zK Z) (zC Z) (dn (zD Z)) ∧ WY (zK Z) (zC Z) (dn (zD Z)) (dW (zD Z)) (dO (zD Z))
theorem GZ.wf {Z : Zt} (h : GZ Z) : WF (zD Z) := h.1
theorem GZ.len {Z : Zt} (h : GZ Z) : (zh Z).length = dm (zD Z) := h.2.1
theorem GZ.ok {Z : Zt} (h : GZ Z) : okP (dn (zD Z)) (zh Z) := h.2.2.1
theorem GZ.kn {Z : Zt} (h : GZ Z) : ∀ c, c < 36 → 0 ≤ zK Z c ∧ zK Z c ≤ 3 := h.2.2.2.1
theorem GZ.gc {Z : Zt} (h : GZ Z) : GC (zK Z) (zC Z) (dn (zD Z)) := h.2.2.2.2.1
theorem GZ.wy {Z : Zt} (h : GZ Z) : WY (zK Z) (zC Z) (dn (zD Z)) (dW (zD Z)) (dO (zD Z)) := h.2.2.2.2.2
theorem GZ.n6 {Z : Zt} (h : GZ Z) : dn (zD Z) ≤ 6 := h.1.1
theorem GZ.m5 {Z : Zt} (h : GZ Z) : dm (zD Z) ≤ 5 := h.1.2.1
theorem GZ.mn {Z : Zt} (h : GZ Z) : dm (zD Z) ≤ dn (zD Z) := h.1.2.2.1
theorem WY.good {K C : Nat → Int} {n : Nat} {W : Nat → Nat → Int} {O : Nat → Int} (h : WY K C n W O) (hc : GC K C n) : (∀ a b, a < n → b < n → -1 ≤ W a b ∧ W a b ≤ 36 ∧ W a b = W b a) ∧ (∀ a, a < n → W a a = 0) ∧ ∀ a, a < n → -1 ≤ O a ∧ O a ≤ 36 := by
  have hn : ∀ a, a < n → ¬ cI K (C a).toNat := fun a ha q => by
    have := (hc a ha).2.2
    unfold cI at q
    omega
  have h6 : ∀ a, a < n → (C a).toNat < 36 := fun a ha => by
    have := hc a ha
    omega
  refine ⟨fun a b ha hb => ?_, fun a ha => ?_, fun a ha => ?_⟩
  · obtain ⟨f, f1, f2, -⟩ := h a ha
    obtain ⟨g, g1, g2, -⟩ := h b hb
    rw [f2 b hb, g2 a ha]
    have := f1.bd (h6 b hb)
    exact ⟨this.1, this.2, f1.sym g1 (h6 a ha) (h6 b hb) (hn a ha) (hn b hb)⟩
  · obtain ⟨f, f1, f2, -⟩ := h a ha
    rw [f2 a ha]
    exact f1.self (h6 a ha)
  · obtain ⟨f, f1, -, f3⟩ := h a ha
    rw [f3]
    exact nearF_bd 36 (fun i hi => f1.bd hi)
def CI (Z : Zt) (σ : Mem) : Prop := σ 3 = zK Z ∧ σ 5 = zC Z ∧ CD (zD Z) σ ∧ hld σ 69 (zh Z) ∧ σ 67 1 = dm (zD Z) ∧ PI σ ∧ (σ 51 10 = 0 ∨ ∃ nn : Nat, 1 ≤ nn ∧ σ 51 10 = nn ∧ PlanOK (zD Z) nn σ)
theorem CI.k {Z : Zt} {σ : Mem} (h : CI Z σ) : σ 3 = zK Z := h.1
theorem CI.c {Z : Zt} {σ : Mem} (h : CI Z σ) : σ 5 = zC Z := h.2.1
theorem CI.d {Z : Zt} {σ : Mem} (h : CI Z σ) : CD (zD Z) σ := h.2.2.1
theorem CI.h {Z : Zt} {σ : Mem} (h : CI Z σ) : hld σ 69 (zh Z) := h.2.2.2.1
theorem CI.m {Z : Zt} {σ : Mem} (h : CI Z σ) : σ 67 1 = dm (zD Z) := h.2.2.2.2.1
theorem CI.p {Z : Zt} {σ : Mem} (h : CI Z σ) : PI σ := h.2.2.2.2.2.1
theorem CI.q {Z : Zt} {σ : Mem} (h : CI Z σ) : σ 51 10 = 0 ∨ ∃ nn : Nat, 1 ≤ nn ∧ σ 51 10 = nn ∧ PlanOK (zD Z) nn σ := h.2.2.2.2.2.2
theorem PlanOK.same {D : Dt} {n : Nat} {S : List Nat} {σ σ1 : Mem} (h : PlanOK D n σ) (hS : Same S σ σ1) (h1 : 51 ∉ S) (h2 : 66 ∉ S) : PlanOK D n σ1 := by
  unfold PlanOK at h ⊢
  rw [hS 51 h1, hS 66 h2]
  exact h
theorem CI.same {Z : Zt} {S : List Nat} {σ σ1 : Mem} (h : CI Z σ) (hS : Same S σ σ1) (hn : ∀ a ∈ S, a ∉ [1, 3, 5, 7, 9, 14, 16, 18, 20, 22, 24, 26, 51, 58, 60, 64, 66, 67, 69]) : CI Z σ1 := by
  have e : ∀ a, a ∈ [1, 3, 5, 7, 9, 14, 16, 18, 20, 22, 24, 26, 51, 58, 60, 64, 66, 67, 69] → a ∉ S := fun a ha q => hn a q ha
  refine ⟨by rw [hS 3 (e 3 (by decide))]; exact h.k, by rw [hS 5 (e 5 (by decide))]; exact h.c, h.d.same hS (fun a ha q => hn a ha ?_), h.h.cong (hS 69 (e 69 (by decide))), by rw [hS 67 (e 67 (by decide))]; exact h.m, h.p.same hS (e 58 (by decide)) (e 60 (by decide)) (e 64 (by decide)), ?_⟩
  · exact (by decide : ∀ a, a ∈ [1, 7, 9, 14, 16, 18, 20, 22, 24, 26] → a ∈ [1, 3, 5, 7, 9, 14, 16, 18, 20, 22, 24, 26, 51, 58, 60, 64, 66, 67, 69]) a q
  · rw [hS 51 (e 51 (by decide))]
    rcases h.q with q | ⟨nn, q1, q2, q3⟩
    · exact Or.inl q
    · exact Or.inr ⟨nn, q1, q2, q3.same hS (e 51 (by decide)) (e 66 (by decide))⟩
/-- the ground changes -/
def gD (D : Dt) (n : Nat) (W : Nat → Nat → Int) (O : Nat → Int) : Dt := ((n, dm D), W, O, D.2.2.2)
def zG (Z : Zt) (K C : Nat → Int) (n : Nat) (W : Nat → Nat → Int) (O : Nat → Int) : Zt := (K, C, gD (zD Z) n W O, zh Z)
theorem okP.up {n n' : Nat} {p : List Nat} (h : okP n p) (hn : n ≤ n') : okP n' p := ⟨fun s hs => Nat.lt_of_lt_of_le (h.1 s hs) hn, h.2⟩
def cls : List Nat := List.range 73
theorem ground_new {Z : Zt} {σ σ1 : Mem} {K C : Nat → Int} {n : Nat} (hZ : GZ Z) (hC : CI Z σ) (hn : dn (zD Z) ≤ n) (h6 : n ≤ 6) (hK : ∀ c, c < 36 → 0 ≤ K c ∧ K c ≤ 3) (hGC : GC K C n) (e3 : σ1 3 = K) (e5 : σ1 5 = C) (e17 : σ1 1 7 = n) (e18 : σ1 1 8 = σ 1 8) (e51 : σ1 51 10 = 0) (hS : Same [1, 3, 5, 7, 9, 11, 13, 51] σ σ1) (hG : ∀ a, a < n → GM1 (σ1 3) n (σ1 5) (σ1 7) (σ1 9) a) : GZ (zG Z K C n (fun a b => σ1 7 (6 * a + b)) (σ1 9)) ∧ CI (zG Z K C n (fun a b => σ1 7 (6 * a + b)) (σ1 9)) σ1 := by
  have hW : WY K C n (fun a b => σ1 7 (6 * a + b)) (σ1 9) := fun a ha => by
    obtain ⟨f, f1, f2, f3⟩ := hG a ha
    rw [e3, e5] at *
    exact ⟨f, f1, f2, f3⟩
  have hg := hW.good hGC
  obtain ⟨w1, w2, w3, w4, w5, w6, w7, w8, w9, w10, w11, w12⟩ := hZ.wf
  obtain ⟨d1, d2, d3, d4, d5, d6, d7, d8, d9, d10, d11, d12⟩ := hC.d
  refine ⟨⟨⟨h6, w2, Nat.le_trans w3 hn, hg.1, hg.2.1, hg.2.2, w7, w8, w9, w10, w11, w12⟩, hZ.len, hZ.ok.up hn, hK, hGC, hW⟩, e3, e5, ⟨e17, ?_, fun a b _ _ => rfl, fun a _ => rfl, e18.trans d5, ?_, ?_, ?_, ?_, ?_, ?_, ?_⟩, hC.h.cong (hS 69 (by decide)), ?_, hC.p.same hS (by decide) (by decide) (by decide), Or.inl e51⟩
  · rw [hS 14 (by decide)]; exact d2
  · rw [hS 16 (by decide)]; exact d6
  · rw [hS 18 (by decide)]; exact d7
  · rw [hS 14 (by decide)]; exact d8
  · rw [hS 20 (by decide)]; exact d9
  · rw [hS 22 (by decide)]; exact d10
  · rw [hS 24 (by decide)]; exact d11
  · rw [hS 26 (by decide)]; exact d12
  · rw [hS 67 (by decide)]; exact hC.m
/-- what a call tells and leaves -/
def isC (x y : Int) : Prop := 0 ≤ x ∧ x < 6 ∧ 0 ≤ y ∧ y < 6
def cN (x y : Int) : Nat := (6 * y + x).toNat
theorem cN_lt {x y : Int} (h : isC x y) : cN x y < 36 ∧ (6 * y + x) = (cN x y : Int) := by
  unfold isC at h
  unfold cN
  omega
def zSame (Z Z' : Zt) : Prop := Z' = Z
def nxBec (Z : Zt) (c : Nat) (k : Int) (Z' : Zt) : Prop := ∃ W O, Z' = zG Z (fup (zK Z) c k) (zC Z) (dn (zD Z)) W O
def nxColumn (Z : Zt) (x y is v : Int) (Z' : Zt) : Prop := (¬ isC x y ∧ v = -2 ∧ Z' = Z) ∨ (isC x y ∧ zK Z (cN x y) = 2 ∧ v = -3 ∧ Z' = Z) ∨ (isC x y ∧ zK Z (cN x y) ≠ 2 ∧ v = 1 ∧ nxBec Z (cN x y) (if is = 0 then 0 else 1) Z')
def nxSlot (Z : Zt) (x y v : Int) (Z' : Zt) : Prop := (¬ isC x y ∧ v = -2 ∧ Z' = Z) ∨ (isC x y ∧ zK Z (cN x y) ≠ 0 ∧ v = -3 ∧ Z' = Z) ∨ (isC x y ∧ zK Z (cN x y) = 0 ∧ dn (zD Z) = 6 ∧ v = -4 ∧ Z' = Z) ∨ (isC x y ∧ zK Z (cN x y) = 0 ∧ dn (zD Z) < 6 ∧ v = dn (zD Z) ∧ ∃ W O, Z' = zG Z (fup (zK Z) (cN x y) 2) (fup (zC Z) (dn (zD Z)) (cN x y)) (dn (zD Z) + 1) W O)
def nxExit (Z : Zt) (x y is v : Int) (Z' : Zt) : Prop := (¬ isC x y ∧ v = -2 ∧ Z' = Z) ∨ (isC x y ∧ zK Z (cN x y) ≠ 0 ∧ zK Z (cN x y) ≠ 3 ∧ v = -3 ∧ Z' = Z) ∨ (isC x y ∧ (zK Z (cN x y) = 0 ∨ zK Z (cN x y) = 3) ∧ v = (if zK Z (cN x y) = 3 then 1 else 0) ∧ nxBec Z (cN x y) (if is = 0 then 0 else 3) Z')
/-- a call of the class -/
def CQ (σ : Mem) (N : Int → Zt → Prop) (v : Int) (σ1 : Mem) : Prop := ∃ Z', N v Z' ∧ GZ Z' ∧ CI Z' σ1 ∧ Same cls σ σ1
theorem k_become {Z : Zt} {σ : Mem} {c : Nat} {k : Int} (hZ : GZ Z) (hC : CI Z σ) (hc : c < 36) (hk : zK Z c ≠ 2) (h0 : 0 ≤ k) (h3 : k ≤ 3) : CM mX2_become [.inr 1, .inl (c : Int), .inl k] σ (fun _ σ1 => ∃ Z', nxBec Z c k Z' ∧ GZ Z' ∧ CI Z' (mu σ1 51 10 0) ∧ Same cls σ (mu σ1 51 10 0)) := by
  have hg := hZ.gc
  refine CM.mono (fun _ σ1 hq => ?_) (c_X2_become (n := dn (zD Z)) (by omega) (by omega) hC.d.1 hZ.n6 (fun a ha => by rw [hC.c]; exact ⟨(hg a ha).1, (hg a ha).2.1⟩))
  obtain ⟨h1, h2⟩ := hq
  rw [Int.toNat_natCast] at h2
  have hS : Same [1, 3, 5, 7, 9, 11, 13, 51] σ (mu σ1 51 10 0) := ((Same.mu (by decide)).tr (h2.1.wk (by decide))).tr (Same.mu (by decide))
  have e3 : mu σ1 51 10 0 3 = fup (zK Z) c k := by rw [mu_nef (by decide), h2.1 3 (by decide), mu_setA, setA_eq, hC.k]
  have e5 : mu σ1 51 10 0 5 = zC Z := by rw [mu_nef (by decide), h2.1 5 (by decide), mu_nef (by decide), hC.c]
  have hnew := ground_new (σ1 := mu σ1 51 10 0) (K := fup (zK Z) c k) (C := zC Z) (n := dn (zD Z)) hZ hC (Nat.le_refl _) hZ.n6 (fun d hd => ?_) (fun a ha => ?_) e3 e5 ?_ ?_ (by rw [mu_at, if_pos rfl]) hS (fun a ha => by rw [mu_nef (by decide), mu_nef (by decide), mu_nef (by decide), mu_nef (by decide)]; exact h1 a ha)
  · exact ⟨_, ⟨_, _, rfl⟩, hnew.1, hnew.2, hS.wk (by decide)⟩
  · unfold fup
    split
    · exact ⟨h0, h3⟩
    · exact hZ.kn d hd
  · refine ⟨(hg a ha).1, (hg a ha).2.1, ?_⟩
    unfold fup
    rw [if_neg]
    · exact (hg a ha).2.2
    · intro q
      rw [← q] at hk
      exact hk (hg a ha).2.2
  · rw [mu_nef (by decide), h2.2 7 (by decide), mu_nef (by decide)]; exact hC.d.1
  · rw [mu_nef (by decide), h2.2 8 (by decide), mu_nef (by decide)]
set_option maxRecDepth 100000 in
theorem rX10_column_0 {x1 x2 x3 : Int}  {σ : Mem} {Q : Int → Mem → Prop} (h : (∀ v1 : Int, ((0 ≤ x1 ∧ x1 < 6 ∧ 0 ≤ x2 ∧ x2 < 6 ∧ v1 = 6 * x2 + x1) ∨ (¬ (0 ≤ x1 ∧ x1 < 6 ∧ 0 ≤ x2 ∧ x2 < 6) ∧ v1 = -1)) → ((v1 ≠ (-1) → ((0 ≤ v1) ∧ (((v1 < 36) ∧ (((σ 3 (v1).toNat) ≠ 2 → (x3 = 0 → CM mX2_become [.inr 1, .inl v1, .inl 0] σ (fun _ σ13 => Q 1 (mu σ13 51 10 0))) ∧ (x3 ≠ 0 → CM mX2_become [.inr 1, .inl v1, .inl 1] σ (fun _ σ19 => Q 1 (mu σ19 51 10 0)))) ∧ ((σ 3 (v1).toNat) = 2 → Q (-3) σ)))))) ∧ (v1 = (-1) → Q (-2) σ)))) : CM mX10_column [.inr 0, .inl x1, .inl x2, .inl x3] σ Q := by
  refine CM_of_GO (by decide +kernel) rfl (Nat.le_of_ble_eq_true rfl) ?_
  show GO none mX10_column 0 [some (.inr 0), some (.inl x1), some (.inl x2), some (.inl x3), none] [] σ Q
  refine g_iload_n dX10_column_0 rfl rfl ?_
  refine g_iload_n dX10_column_1 rfl rfl ?_
  refine g_invSI (as := [.inl x1, .inl x2]) (rest := []) okX10_cellAt rfl mlX10_81 rfl ⟨Nat.le_of_ble_eq_true rfl, Nat.le_of_ble_eq_true rfl⟩ (Nat.le_of_ble_eq_true rfl) rfl dX10_column_2 (c_X10_cellAt (x := x1) (y := x2)) (Or.inl rfl) (fun v1 σ2 e3 => ?_)
  obtain ⟨e3a, e3b⟩ := e3; subst σ2
  have h := h v1 e3a
  refine g_istore (ls' := [some (.inr 0), some (.inl x1), some (.inl x2), some (.inl x3), some (.inl v1)]) dX10_column_5 (by decide) rfl ?_
  refine g_iload dX10_column_7 rfl ?_
  refine g_iconst dX10_column_9 (by decide) ?_
  refine g_icmp_ne (tgt := 16) dX10_column_10 (by decide) (fun c4 => ?_) (fun c4 => ?_)
  · have h := h.1 c4
    refine g_aload_n dX10_column_16 rfl rfl ?_
    refine g_getR (r' := 1) flX10_12 (by decide) rfl (by decide) rfl dX10_column_17 ?_
    refine g_iload dX10_column_20 rfl ?_
    obtain ⟨p5, h⟩ := h
    obtain ⟨p6, h⟩ := h
    refine g_invVI (as := [.inl v1]) (rest := []) okX2_kindOf mlX10_85 (by decide) rfl ⟨_, _, rfl⟩ rfl ⟨Nat.le_of_ble_eq_true rfl, Nat.le_of_ble_eq_true rfl⟩ (Nat.le_of_ble_eq_true rfl) rfl dX10_column_22 (c_X2_kindOf p5 p6) (Or.inl rfl) (fun v7 σ8 e9 => ?_)
    obtain ⟨e9a, e9b⟩ := e9; subst v7; subst σ8
    refine g_iconst dX10_column_25 (by decide) ?_
    refine g_icmp_ne (tgt := 32) dX10_column_26 (by decide) (fun c10 => ?_) (fun c10 => ?_)
    · have h := h.1 c10
      refine g_aload_n dX10_column_32 rfl rfl ?_
      refine g_getR (r' := 1) flX10_12 (by decide) rfl (by decide) rfl dX10_column_33 ?_
      refine g_iload dX10_column_36 rfl ?_
      refine g_iload_n dX10_column_38 rfl rfl ?_
      refine g_if_eq (tgt := 46) dX10_column_39 (by decide) (fun c11 => ?_) (fun c11 => ?_)
      · have h := h.1 c11
        refine g_iconst dX10_column_46 (by decide) ?_
        refine g_invVV (as := [.inl v1, .inl 0]) (rest := []) okX2_become mlX10_89 (by decide) rfl ⟨_, _, rfl⟩ rfl ⟨Nat.le_of_ble_eq_true rfl, Nat.le_of_ble_eq_true rfl⟩ (Nat.le_of_ble_eq_true rfl) rfl dX10_column_47 h rfl (fun σ13 e14 => ?_)
        have h := e14
        refine g_aload_n dX10_column_50 rfl rfl ?_
        refine g_getR (r' := 51) flX10_67 (by decide) rfl (by decide) rfl dX10_column_51 ?_
        refine g_invVV (as := []) (rest := []) okX6_forget mlX10_93 (by decide) rfl ⟨_, _, rfl⟩ rfl ⟨Nat.le_of_ble_eq_true rfl, Nat.le_of_ble_eq_true rfl⟩ (Nat.le_of_ble_eq_true rfl) rfl dX10_column_54 (c_X6_forget) rfl (fun σ16 e17 => ?_)
        subst σ16
        refine g_iconst dX10_column_57 (by decide) ?_
        exact g_ireturn rfl dX10_column_58 h
      · have h := h.2 c11
        refine g_iconst dX10_column_42 (by decide) ?_
        refine g_goto (tgt := 47) dX10_column_43 (by decide) ?_
        refine g_invVV (as := [.inl v1, .inl 1]) (rest := []) okX2_become mlX10_89 (by decide) rfl ⟨_, _, rfl⟩ rfl ⟨Nat.le_of_ble_eq_true rfl, Nat.le_of_ble_eq_true rfl⟩ (Nat.le_of_ble_eq_true rfl) rfl dX10_column_47 h rfl (fun σ19 e20 => ?_)
        have h := e20
        refine g_aload_n dX10_column_50 rfl rfl ?_
        refine g_getR (r' := 51) flX10_67 (by decide) rfl (by decide) rfl dX10_column_51 ?_
        refine g_invVV (as := []) (rest := []) okX6_forget mlX10_93 (by decide) rfl ⟨_, _, rfl⟩ rfl ⟨Nat.le_of_ble_eq_true rfl, Nat.le_of_ble_eq_true rfl⟩ (Nat.le_of_ble_eq_true rfl) rfl dX10_column_54 (c_X6_forget) rfl (fun σ22 e23 => ?_)
        subst σ22
        refine g_iconst dX10_column_57 (by decide) ?_
        exact g_ireturn rfl dX10_column_58 h
    · have h := h.2 c10
      refine g_bipush dX10_column_29 (by decide) (by decide) ?_
      exact g_ireturn rfl dX10_column_31 h
  · have h := h.2 c4
    refine g_bipush dX10_column_13 (by decide) (by decide) ?_
    exact g_ireturn rfl dX10_column_15 h
set_option maxRecDepth 100000 in
theorem rX10_slot_0 {x1 x2 : Int}  {σ : Mem} {Q : Int → Mem → Prop} (h : (∀ v1 : Int, ((0 ≤ x1 ∧ x1 < 6 ∧ 0 ≤ x2 ∧ x2 < 6 ∧ v1 = 6 * x2 + x1) ∨ (¬ (0 ≤ x1 ∧ x1 < 6 ∧ 0 ≤ x2 ∧ x2 < 6) ∧ v1 = -1)) → ((v1 ≠ (-1) → ((0 ≤ v1) ∧ (((v1 < 36) ∧ (((σ 3 (v1).toNat) = 0 → ((σ 1 7) < 6 → CM mX2_addSlot [.inr 1, .inl v1] (mu σ 51 10 0) (fun v18 σ19 => Q v18 σ19)) ∧ (6 ≤ (σ 1 7) → Q (-4) σ)) ∧ ((σ 3 (v1).toNat) ≠ 0 → Q (-3) σ)))))) ∧ (v1 = (-1) → Q (-2) σ)))) : CM mX10_slot [.inr 0, .inl x1, .inl x2] σ Q := by
  refine CM_of_GO (by decide +kernel) rfl (Nat.le_of_ble_eq_true rfl) ?_
  show GO none mX10_slot 0 [some (.inr 0), some (.inl x1), some (.inl x2), none] [] σ Q
  refine g_iload_n dX10_slot_0 rfl rfl ?_
  refine g_iload_n dX10_slot_1 rfl rfl ?_
  refine g_invSI (as := [.inl x1, .inl x2]) (rest := []) okX10_cellAt rfl mlX10_81 rfl ⟨Nat.le_of_ble_eq_true rfl, Nat.le_of_ble_eq_true rfl⟩ (Nat.le_of_ble_eq_true rfl) rfl dX10_slot_2 (c_X10_cellAt (x := x1) (y := x2)) (Or.inl rfl) (fun v1 σ2 e3 => ?_)
  obtain ⟨e3a, e3b⟩ := e3; subst σ2
  have h := h v1 e3a
  refine g_istore_n (ls' := [some (.inr 0), some (.inl x1), some (.inl x2), some (.inl v1)]) dX10_slot_5 rfl (by decide) rfl ?_
  refine g_iload_n dX10_slot_6 rfl rfl ?_
  refine g_iconst dX10_slot_7 (by decide) ?_
  refine g_icmp_ne (tgt := 14) dX10_slot_8 (by decide) (fun c4 => ?_) (fun c4 => ?_)
  · have h := h.1 c4
    refine g_aload_n dX10_slot_14 rfl rfl ?_
    refine g_getR (r' := 1) flX10_12 (by decide) rfl (by decide) rfl dX10_slot_15 ?_
    refine g_iload_n dX10_slot_18 rfl rfl ?_
    obtain ⟨p5, h⟩ := h
    obtain ⟨p6, h⟩ := h
    refine g_invVI (as := [.inl v1]) (rest := []) okX2_kindOf mlX10_85 (by decide) rfl ⟨_, _, rfl⟩ rfl ⟨Nat.le_of_ble_eq_true rfl, Nat.le_of_ble_eq_true rfl⟩ (Nat.le_of_ble_eq_true rfl) rfl dX10_slot_19 (c_X2_kindOf p5 p6) (Or.inl rfl) (fun v7 σ8 e9 => ?_)
    obtain ⟨e9a, e9b⟩ := e9; subst v7; subst σ8
    refine g_if_eq (tgt := 28) dX10_slot_22 (by decide) (fun c10 => ?_) (fun c10 => ?_)
    · have h := h.1 c10
      refine g_aload_n dX10_slot_28 rfl rfl ?_
      refine g_getR (r' := 1) flX10_12 (by decide) rfl (by decide) rfl dX10_slot_29 ?_
      refine g_invVI (as := []) (rest := []) okX2_slots mlX10_96 (by decide) rfl ⟨_, _, rfl⟩ rfl ⟨Nat.le_of_ble_eq_true rfl, Nat.le_of_ble_eq_true rfl⟩ (Nat.le_of_ble_eq_true rfl) rfl dX10_slot_32 (c_X2_slots) (Or.inl rfl) (fun v11 σ12 e13 => ?_)
      obtain ⟨e13a, e13b⟩ := e13; subst v11; subst σ12
      refine g_bipush dX10_slot_35 (by decide) (by decide) ?_
      refine g_icmp_lt (tgt := 43) dX10_slot_37 (by decide) (fun c14 => ?_) (fun c14 => ?_)
      · have h := h.1 c14
        refine g_aload_n dX10_slot_43 rfl rfl ?_
        refine g_getR (r' := 51) flX10_67 (by decide) rfl (by decide) rfl dX10_slot_44 ?_
        refine g_invVV (as := []) (rest := []) okX6_forget mlX10_93 (by decide) rfl ⟨_, _, rfl⟩ rfl ⟨Nat.le_of_ble_eq_true rfl, Nat.le_of_ble_eq_true rfl⟩ (Nat.le_of_ble_eq_true rfl) rfl dX10_slot_47 (c_X6_forget) rfl (fun σ16 e17 => ?_)
        subst σ16
        refine g_aload_n dX10_slot_50 rfl rfl ?_
        refine g_getR (r' := 1) flX10_12 (by decide) rfl (by decide) rfl dX10_slot_51 ?_
        refine g_iload_n dX10_slot_54 rfl rfl ?_
        refine g_invVI (as := [.inl v1]) (rest := []) okX2_addSlot mlX10_100 (by decide) rfl ⟨_, _, rfl⟩ rfl ⟨Nat.le_of_ble_eq_true rfl, Nat.le_of_ble_eq_true rfl⟩ (Nat.le_of_ble_eq_true rfl) rfl dX10_slot_55 h (Or.inl rfl) (fun v18 σ19 e20 => ?_)
        have h := e20
        exact g_ireturn rfl dX10_slot_58 h
      · have h := h.2 c14
        refine g_bipush dX10_slot_40 (by decide) (by decide) ?_
        exact g_ireturn rfl dX10_slot_42 h
    · have h := h.2 c10
      refine g_bipush dX10_slot_25 (by decide) (by decide) ?_
      exact g_ireturn rfl dX10_slot_27 h
  · have h := h.2 c4
    refine g_bipush dX10_slot_11 (by decide) (by decide) ?_
    exact g_ireturn rfl dX10_slot_13 h
set_option maxRecDepth 100000 in
theorem rX10_exit_0 {x1 x2 x3 : Int}  {σ : Mem} {Q : Int → Mem → Prop} (h : (∀ v1 : Int, ((0 ≤ x1 ∧ x1 < 6 ∧ 0 ≤ x2 ∧ x2 < 6 ∧ v1 = 6 * x2 + x1) ∨ (¬ (0 ≤ x1 ∧ x1 < 6 ∧ 0 ≤ x2 ∧ x2 < 6) ∧ v1 = -1)) → ((v1 ≠ (-1) → ((0 ≤ v1) ∧ (((v1 < 36) ∧ (((σ 3 (v1).toNat) = 0 → (x3 = 0 → CM mX2_become [.inr 1, .inl v1, .inl 0] σ (fun _ σ13 => ((σ 3 (v1).toNat) ≠ 3 → Q 0 (mu σ13 51 10 0)) ∧ ((σ 3 (v1).toNat) = 3 → Q 1 (mu σ13 51 10 0)))) ∧ (x3 ≠ 0 → CM mX2_become [.inr 1, .inl v1, .inl 3] σ (fun _ σ20 => ((σ 3 (v1).toNat) ≠ 3 → Q 0 (mu σ20 51 10 0)) ∧ ((σ 3 (v1).toNat) = 3 → Q 1 (mu σ20 51 10 0))))) ∧ ((σ 3 (v1).toNat) ≠ 0 → ((σ 3 (v1).toNat) = 3 → (x3 = 0 → CM mX2_become [.inr 1, .inl v1, .inl 0] σ (fun _ σ29 => ((σ 3 (v1).toNat) ≠ 3 → Q 0 (mu σ29 51 10 0)) ∧ ((σ 3 (v1).toNat) = 3 → Q 1 (mu σ29 51 10 0)))) ∧ (x3 ≠ 0 → CM mX2_become [.inr 1, .inl v1, .inl 3] σ (fun _ σ36 => ((σ 3 (v1).toNat) ≠ 3 → Q 0 (mu σ36 51 10 0)) ∧ ((σ 3 (v1).toNat) = 3 → Q 1 (mu σ36 51 10 0))))) ∧ ((σ 3 (v1).toNat) ≠ 3 → Q (-3) σ))))))) ∧ (v1 = (-1) → Q (-2) σ)))) : CM mX10_exit [.inr 0, .inl x1, .inl x2, .inl x3] σ Q := by
  refine CM_of_GO (by decide +kernel) rfl (Nat.le_of_ble_eq_true rfl) ?_
  show GO none mX10_exit 0 [some (.inr 0), some (.inl x1), some (.inl x2), some (.inl x3), none, none] [] σ Q
  refine g_iload_n dX10_exit_0 rfl rfl ?_
  refine g_iload_n dX10_exit_1 rfl rfl ?_
  refine g_invSI (as := [.inl x1, .inl x2]) (rest := []) okX10_cellAt rfl mlX10_81 rfl ⟨Nat.le_of_ble_eq_true rfl, Nat.le_of_ble_eq_true rfl⟩ (Nat.le_of_ble_eq_true rfl) rfl dX10_exit_2 (c_X10_cellAt (x := x1) (y := x2)) (Or.inl rfl) (fun v1 σ2 e3 => ?_)
  obtain ⟨e3a, e3b⟩ := e3; subst σ2
  have h := h v1 e3a
  refine g_istore (ls' := [some (.inr 0), some (.inl x1), some (.inl x2), some (.inl x3), some (.inl v1), none]) dX10_exit_5 (by decide) rfl ?_
  refine g_iload dX10_exit_7 rfl ?_
  refine g_iconst dX10_exit_9 (by decide) ?_
  refine g_icmp_ne (tgt := 16) dX10_exit_10 (by decide) (fun c4 => ?_) (fun c4 => ?_)
  · have h := h.1 c4
    refine g_aload_n dX10_exit_16 rfl rfl ?_
    refine g_getR (r' := 1) flX10_12 (by decide) rfl (by decide) rfl dX10_exit_17 ?_
    refine g_iload dX10_exit_20 rfl ?_
    obtain ⟨p5, h⟩ := h
    obtain ⟨p6, h⟩ := h
    refine g_invVI (as := [.inl v1]) (rest := []) okX2_kindOf mlX10_85 (by decide) rfl ⟨_, _, rfl⟩ rfl ⟨Nat.le_of_ble_eq_true rfl, Nat.le_of_ble_eq_true rfl⟩ (Nat.le_of_ble_eq_true rfl) rfl dX10_exit_22 (c_X2_kindOf p5 p6) (Or.inl rfl) (fun v7 σ8 e9 => ?_)
    obtain ⟨e9a, e9b⟩ := e9; subst v7; subst σ8
    refine g_istore (ls' := [some (.inr 0), some (.inl x1), some (.inl x2), some (.inl x3), some (.inl v1), some (.inl (σ 3 (v1).toNat))]) dX10_exit_25 (by decide) rfl ?_
    refine g_iload dX10_exit_27 rfl ?_
    refine g_if_eq (tgt := 41) dX10_exit_29 (by decide) (fun c10 => ?_) (fun c10 => ?_)
    · have h := h.1 c10
      refine g_aload_n dX10_exit_41 rfl rfl ?_
      refine g_getR (r' := 1) flX10_12 (by decide) rfl (by decide) rfl dX10_exit_42 ?_
      refine g_iload dX10_exit_45 rfl ?_
      refine g_iload_n dX10_exit_47 rfl rfl ?_
      refine g_if_eq (tgt := 55) dX10_exit_48 (by decide) (fun c11 => ?_) (fun c11 => ?_)
      · have h := h.1 c11
        refine g_iconst dX10_exit_55 (by decide) ?_
        refine g_invVV (as := [.inl v1, .inl 0]) (rest := []) okX2_become mlX10_89 (by decide) rfl ⟨_, _, rfl⟩ rfl ⟨Nat.le_of_ble_eq_true rfl, Nat.le_of_ble_eq_true rfl⟩ (Nat.le_of_ble_eq_true rfl) rfl dX10_exit_56 h rfl (fun σ13 e14 => ?_)
        have h := e14
        refine g_aload_n dX10_exit_59 rfl rfl ?_
        refine g_getR (r' := 51) flX10_67 (by decide) rfl (by decide) rfl dX10_exit_60 ?_
        refine g_invVV (as := []) (rest := []) okX6_forget mlX10_93 (by decide) rfl ⟨_, _, rfl⟩ rfl ⟨Nat.le_of_ble_eq_true rfl, Nat.le_of_ble_eq_true rfl⟩ (Nat.le_of_ble_eq_true rfl) rfl dX10_exit_63 (c_X6_forget) rfl (fun σ16 e17 => ?_)
        subst σ16
        refine g_iload dX10_exit_66 rfl ?_
        refine g_iconst dX10_exit_68 (by decide) ?_
        refine g_icmp_ne (tgt := 76) dX10_exit_69 (by decide) (fun c18 => ?_) (fun c18 => ?_)
        · have h := h.1 c18
          refine g_iconst dX10_exit_76 (by decide) ?_
          exact g_ireturn rfl dX10_exit_77 h
        · have h := h.2 c18
          refine g_iconst dX10_exit_72 (by decide) ?_
          refine g_goto (tgt := 77) dX10_exit_73 (by decide) ?_
          exact g_ireturn rfl dX10_exit_77 h
      · have h := h.2 c11
        refine g_iconst dX10_exit_51 (by decide) ?_
        refine g_goto (tgt := 56) dX10_exit_52 (by decide) ?_
        refine g_invVV (as := [.inl v1, .inl 3]) (rest := []) okX2_become mlX10_89 (by decide) rfl ⟨_, _, rfl⟩ rfl ⟨Nat.le_of_ble_eq_true rfl, Nat.le_of_ble_eq_true rfl⟩ (Nat.le_of_ble_eq_true rfl) rfl dX10_exit_56 h rfl (fun σ20 e21 => ?_)
        have h := e21
        refine g_aload_n dX10_exit_59 rfl rfl ?_
        refine g_getR (r' := 51) flX10_67 (by decide) rfl (by decide) rfl dX10_exit_60 ?_
        refine g_invVV (as := []) (rest := []) okX6_forget mlX10_93 (by decide) rfl ⟨_, _, rfl⟩ rfl ⟨Nat.le_of_ble_eq_true rfl, Nat.le_of_ble_eq_true rfl⟩ (Nat.le_of_ble_eq_true rfl) rfl dX10_exit_63 (c_X6_forget) rfl (fun σ23 e24 => ?_)
        subst σ23
        refine g_iload dX10_exit_66 rfl ?_
        refine g_iconst dX10_exit_68 (by decide) ?_
        refine g_icmp_ne (tgt := 76) dX10_exit_69 (by decide) (fun c25 => ?_) (fun c25 => ?_)
        · have h := h.1 c25
          refine g_iconst dX10_exit_76 (by decide) ?_
          exact g_ireturn rfl dX10_exit_77 h
        · have h := h.2 c25
          refine g_iconst dX10_exit_72 (by decide) ?_
          refine g_goto (tgt := 77) dX10_exit_73 (by decide) ?_
          exact g_ireturn rfl dX10_exit_77 h
    · have h := h.2 c10
      refine g_iload dX10_exit_32 rfl ?_
      refine g_iconst dX10_exit_34 (by decide) ?_
      refine g_icmp_eq (tgt := 41) dX10_exit_35 (by decide) (fun c26 => ?_) (fun c26 => ?_)
      · have h := h.1 c26
        refine g_aload_n dX10_exit_41 rfl rfl ?_
        refine g_getR (r' := 1) flX10_12 (by decide) rfl (by decide) rfl dX10_exit_42 ?_
        refine g_iload dX10_exit_45 rfl ?_
        refine g_iload_n dX10_exit_47 rfl rfl ?_
        refine g_if_eq (tgt := 55) dX10_exit_48 (by decide) (fun c27 => ?_) (fun c27 => ?_)
        · have h := h.1 c27
          refine g_iconst dX10_exit_55 (by decide) ?_
          refine g_invVV (as := [.inl v1, .inl 0]) (rest := []) okX2_become mlX10_89 (by decide) rfl ⟨_, _, rfl⟩ rfl ⟨Nat.le_of_ble_eq_true rfl, Nat.le_of_ble_eq_true rfl⟩ (Nat.le_of_ble_eq_true rfl) rfl dX10_exit_56 h rfl (fun σ29 e30 => ?_)
          have h := e30
          refine g_aload_n dX10_exit_59 rfl rfl ?_
          refine g_getR (r' := 51) flX10_67 (by decide) rfl (by decide) rfl dX10_exit_60 ?_
          refine g_invVV (as := []) (rest := []) okX6_forget mlX10_93 (by decide) rfl ⟨_, _, rfl⟩ rfl ⟨Nat.le_of_ble_eq_true rfl, Nat.le_of_ble_eq_true rfl⟩ (Nat.le_of_ble_eq_true rfl) rfl dX10_exit_63 (c_X6_forget) rfl (fun σ32 e33 => ?_)
          subst σ32
          refine g_iload dX10_exit_66 rfl ?_
          refine g_iconst dX10_exit_68 (by decide) ?_
          refine g_icmp_ne (tgt := 76) dX10_exit_69 (by decide) (fun c34 => ?_) (fun c34 => ?_)
          · have h := h.1 c34
            refine g_iconst dX10_exit_76 (by decide) ?_
            exact g_ireturn rfl dX10_exit_77 h
          · have h := h.2 c34
            refine g_iconst dX10_exit_72 (by decide) ?_
            refine g_goto (tgt := 77) dX10_exit_73 (by decide) ?_
            exact g_ireturn rfl dX10_exit_77 h
        · have h := h.2 c27
          refine g_iconst dX10_exit_51 (by decide) ?_
          refine g_goto (tgt := 56) dX10_exit_52 (by decide) ?_
          refine g_invVV (as := [.inl v1, .inl 3]) (rest := []) okX2_become mlX10_89 (by decide) rfl ⟨_, _, rfl⟩ rfl ⟨Nat.le_of_ble_eq_true rfl, Nat.le_of_ble_eq_true rfl⟩ (Nat.le_of_ble_eq_true rfl) rfl dX10_exit_56 h rfl (fun σ36 e37 => ?_)
          have h := e37
          refine g_aload_n dX10_exit_59 rfl rfl ?_
          refine g_getR (r' := 51) flX10_67 (by decide) rfl (by decide) rfl dX10_exit_60 ?_
          refine g_invVV (as := []) (rest := []) okX6_forget mlX10_93 (by decide) rfl ⟨_, _, rfl⟩ rfl ⟨Nat.le_of_ble_eq_true rfl, Nat.le_of_ble_eq_true rfl⟩ (Nat.le_of_ble_eq_true rfl) rfl dX10_exit_63 (c_X6_forget) rfl (fun σ39 e40 => ?_)
          subst σ39
          refine g_iload dX10_exit_66 rfl ?_
          refine g_iconst dX10_exit_68 (by decide) ?_
          refine g_icmp_ne (tgt := 76) dX10_exit_69 (by decide) (fun c41 => ?_) (fun c41 => ?_)
          · have h := h.1 c41
            refine g_iconst dX10_exit_76 (by decide) ?_
            exact g_ireturn rfl dX10_exit_77 h
          · have h := h.2 c41
            refine g_iconst dX10_exit_72 (by decide) ?_
            refine g_goto (tgt := 77) dX10_exit_73 (by decide) ?_
            exact g_ireturn rfl dX10_exit_77 h
      · have h := h.2 c26
        refine g_bipush dX10_exit_38 (by decide) (by decide) ?_
        exact g_ireturn rfl dX10_exit_40 h
  · have h := h.2 c4
    refine g_bipush dX10_exit_13 (by decide) (by decide) ?_
    exact g_ireturn rfl dX10_exit_15 h
theorem c_X10_column {Z : Zt} {σ : Mem} {x y is : Int} (hZ : GZ Z) (hC : CI Z σ) : CM mX10_column [.inr 0, .inl x, .inl y, .inl is] σ (CQ σ (nxColumn Z x y is)) := by
  refine rX10_column_0 (fun v1 hv => ⟨fun hne => ?_, fun he => ?_⟩)
  · obtain ⟨a1, a2, a3, a4, a5⟩ := hv.resolve_right (fun q => hne q.2)
    have hi : isC x y := ⟨a1, a2, a3, a4⟩
    have hc := cN_lt hi
    rw [hc.2] at a5
    subst a5
    rw [Int.toNat_natCast, hC.k]
    refine ⟨by omega, by omega, fun h2 => ⟨fun hx => ?_, fun hx => ?_⟩, fun h2 => ⟨Z, Or.inr (Or.inl ⟨hi, h2, rfl, rfl⟩), hZ, hC, Same.rf⟩⟩
    · refine CM.mono (fun _ σ1 hq => ?_) (k_become hZ hC hc.1 h2 (by omega) (by omega))
      obtain ⟨Z', q1, q2, q3, q4⟩ := hq
      exact ⟨Z', Or.inr (Or.inr ⟨hi, h2, rfl, by rw [if_pos hx]; exact q1⟩), q2, q3, q4⟩
    · refine CM.mono (fun _ σ1 hq => ?_) (k_become hZ hC hc.1 h2 (by omega) (by omega))
      obtain ⟨Z', q1, q2, q3, q4⟩ := hq
      exact ⟨Z', Or.inr (Or.inr ⟨hi, h2, rfl, by rw [if_neg hx]; exact q1⟩), q2, q3, q4⟩
  · have hn := hv.resolve_left (fun q => by omega)
    exact ⟨Z, Or.inl ⟨hn.1, rfl, rfl⟩, hZ, hC, Same.rf⟩
theorem c_X10_exit {Z : Zt} {σ : Mem} {x y is : Int} (hZ : GZ Z) (hC : CI Z σ) : CM mX10_exit [.inr 0, .inl x, .inl y, .inl is] σ (CQ σ (nxExit Z x y is)) := by
  refine rX10_exit_0 (fun v1 hv => ⟨fun hne => ?_, fun he => ?_⟩)
  · obtain ⟨a1, a2, a3, a4, a5⟩ := hv.resolve_right (fun q => hne q.2)
    have hi : isC x y := ⟨a1, a2, a3, a4⟩
    have hc := cN_lt hi
    rw [hc.2] at a5
    subst a5
    rw [Int.toNat_natCast, hC.k]
    refine ⟨by omega, by omega, fun h2 => ⟨fun hx => ?_, fun hx => ?_⟩, fun h2 => ⟨fun h3 => ⟨fun hx => ?_, fun hx => ?_⟩, fun h3 => ⟨Z, Or.inr (Or.inl ⟨hi, h2, h3, rfl, rfl⟩), hZ, hC, Same.rf⟩⟩⟩
    all_goals
      refine CM.mono (fun _ σ1 hq => ?_) (k_become hZ hC hc.1 (by omega) (by omega) (by omega))
      obtain ⟨Z', q1, q2, q3, q4⟩ := hq
      refine ⟨fun w => ⟨Z', Or.inr (Or.inr ⟨hi, by omega, by first | rw [if_neg w] | omega, ?_⟩), q2, q3, q4⟩, fun w => ⟨Z', Or.inr (Or.inr ⟨hi, by omega, by first | rw [if_pos w] | omega, ?_⟩), q2, q3, q4⟩⟩ <;> first
        | (rw [if_pos hx]; exact q1)
        | (rw [if_neg hx]; exact q1)
  · have hn := hv.resolve_left (fun q => by omega)
    exact ⟨Z, Or.inl ⟨hn.1, rfl, rfl⟩, hZ, hC, Same.rf⟩
theorem c_X10_slot {Z : Zt} {σ : Mem} {x y : Int} (hZ : GZ Z) (hC : CI Z σ) : CM mX10_slot [.inr 0, .inl x, .inl y] σ (CQ σ (nxSlot Z x y)) := by
  have hn6 := hZ.n6
  have e17 := hC.d.1
  have hg := hZ.gc
  refine rX10_slot_0 (fun v1 hv => ⟨fun hne => ?_, fun he => ?_⟩)
  · obtain ⟨a1, a2, a3, a4, a5⟩ := hv.resolve_right (fun q => hne q.2)
    have hi : isC x y := ⟨a1, a2, a3, a4⟩
    have hc := cN_lt hi
    rw [hc.2] at a5
    subst a5
    rw [Int.toNat_natCast, hC.k]
    refine ⟨by omega, by omega, fun h2 => ⟨fun hx => ?_, fun hx => ⟨Z, Or.inr (Or.inr (Or.inl ⟨hi, h2, by omega, rfl, rfl⟩)), hZ, hC, Same.rf⟩⟩, fun h2 => ⟨Z, Or.inr (Or.inl ⟨hi, h2, rfl, rfl⟩), hZ, hC, Same.rf⟩⟩
    refine CM.mono (fun v σ1 hq => ?_) (c_X2_addSlot (n := dn (zD Z)) (by omega) (by omega) (by rw [mu_nef (by decide)]; exact e17) (by omega) (fun a ha => by rw [mu_nef (by decide), hC.c]; exact ⟨(hg a ha).1, (hg a ha).2.1⟩))
    obtain ⟨rfl, h1, h3⟩ := hq
    rw [Int.toNat_natCast] at h3
    have hS : Same [1, 3, 5, 7, 9, 11, 13, 51] σ σ1 := ((((Same.mu (by decide)).tr (Same.mu (by decide))).tr (Same.mu (by decide))).tr (Same.mu (by decide))).tr (h3.1.wk (by decide))
    have e3 : σ1 3 = fup (zK Z) (cN x y) 2 := by rw [h3.1 3 (by decide), mu_setA, setA_eq, mu_nef (by decide), mu_nef (by decide), mu_nef (by decide), hC.k]
    have e5 : σ1 5 = fup (zC Z) (dn (zD Z)) (cN x y) := by rw [h3.1 5 (by decide), mu_nef (by decide), mu_nef (by decide), mu_setA, setA_eq, mu_nef (by decide), hC.c]
    have hnew := ground_new (σ1 := σ1) (K := fup (zK Z) (cN x y) 2) (C := fup (zC Z) (dn (zD Z)) (cN x y)) (n := dn (zD Z) + 1) hZ hC (by omega) (by omega) (fun d hd => ?_) (fun a ha => ?_) e3 e5 ?_ ?_ ?_ hS h1
    · exact ⟨_, Or.inr (Or.inr (Or.inr ⟨hi, h2, by omega, rfl, _, _, rfl⟩)), hnew.1, hnew.2, hS.wk (by decide)⟩
    · unfold fup
      split
      · omega
      · exact hZ.kn d hd
    · by_cases e : a = dn (zD Z)
      · rw [e]
        have : fup (zC Z) (dn (zD Z)) (cN x y) (dn (zD Z)) = (cN x y : Int) := by simp [fup]
        rw [this, Int.toNat_natCast]
        exact ⟨by omega, by omega, by simp [fup]⟩
      · have : fup (zC Z) (dn (zD Z)) (cN x y) a = zC Z a := by simp [fup, e]
        rw [this]
        have w := hg a (by omega)
        refine ⟨w.1, w.2.1, ?_⟩
        unfold fup
        split
        · rfl
        · exact w.2.2
    · rw [h3.2 7 (by decide), mu_nef (by decide), mu_at, if_pos rfl]; rfl
    · rw [h3.2 8 (by decide), mu_nef (by decide), mu_atn (by decide), mu_nef (by decide), mu_nef (by decide)]
    · rw [h3.1 51 (by decide), mu_nef (by decide), mu_nef (by decide), mu_nef (by decide), mu_at, if_pos rfl]
  · have hn := hv.resolve_left (fun q => by omega)
    exact ⟨Z, Or.inl ⟨hn.1, rfl, rfl⟩, hZ, hC, Same.rf⟩
