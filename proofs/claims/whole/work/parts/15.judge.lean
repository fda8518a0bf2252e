/-! ===== a year's problem: slots and shops, ways, ways out, bound, loads, weights, wishes ===== -/
abbrev Dt : Type := (Nat × Nat) × (Nat → Nat → Int) × (Nat → Int) × Int × (Nat → Int) × (Nat → Int) × Nat × (Nat → Int) × (Nat → Int) × (Nat → Int) × (Nat → Int)
def dn (D : Dt) : Nat := D.1.1
def dm (D : Dt) : Nat := D.1.2
def dW (D : Dt) : Nat → Nat → Int := D.2.1
def dO (D : Dt) : Nat → Int := D.2.2.1
def dB (D : Dt) : Int := D.2.2.2.1
def dL (D : Dt) : Nat → Int := D.2.2.2.2.1
def dV (D : Dt) : Nat → Int := D.2.2.2.2.2.1
def dwn (D : Dt) : Nat := D.2.2.2.2.2.2.1
def dwa (D : Dt) : Nat → Int := D.2.2.2.2.2.2.2.1
def dwb (D : Dt) : Nat → Int := D.2.2.2.2.2.2.2.2.1
def dwe (D : Dt) : Nat → Int := D.2.2.2.2.2.2.2.2.2.1
def dwd (D : Dt) : Nat → Int := D.2.2.2.2.2.2.2.2.2.2
def WF (D : Dt) : Prop := dn D ≤ 6 ∧ dm D ≤ 5 ∧ dm D ≤ dn D ∧ (∀ a b, a < dn D → b < dn D → -1 ≤ dW D a b ∧ dW D a b ≤ 36 ∧ dW D a b = dW D b a) ∧ (∀ a, a < dn D → dW D a a = 0) ∧ (∀ a, a < dn D → -1 ≤ dO D a ∧ dO D a ≤ 36) ∧ (0 ≤ dB D ∧ dB D ≤ 41) ∧ (∀ i, i < 100 → 0 ≤ dL D i ∧ dL D i ≤ 99) ∧ (∀ i, i < 5 → 0 ≤ dV D i ∧ dV D i ≤ 50) ∧ (∀ i, i < dm D → 1 ≤ dV D i) ∧ dwn D ≤ 6 ∧ ∀ i, i < dwn D → (0 ≤ dwa D i ∧ dwa D i < dm D) ∧ (0 ≤ dwb D i ∧ dwb D i < dm D) ∧ (dwe D i = 0 ∨ dwe D i = 1) ∧ 0 ≤ dwd D i ∧ dwd D i ≤ 20
def pg (p : List Nat) (i : Nat) : Nat := p.getD i 0
theorem pg_eq {p : List Nat} {i : Nat} (h : i < p.length) : pg p i = p[i] := by simp [pg, List.getD, h]
theorem hld.pg {σ : Mem} {a : Nat} {p : List Nat} (h : hld σ a p) {i : Nat} (hi : i < p.length) : σ a i = (pg p i : Int) := by rw [pg_eq hi]; exact h i hi
theorem pg_mem {p : List Nat} {i : Nat} (h : i < p.length) : pg p i ∈ p := by rw [pg_eq h]; exact List.getElem_mem h
def okE (D : Dt) (s : Nat) : Prop := dB D = 41 ∨ (dO D s ≠ -1 ∧ dO D s ≤ dB D)
def metW (D : Dt) (i : Nat) (w : Int) : Prop := (dwe D i = 1 ∧ w ≠ -1 ∧ w ≤ dwd D i) ∨ (dwe D i ≠ 1 ∧ (w = -1 ∨ dwd D i ≤ w))
/-- the way between two shops, the loads from one to another -/
def wy (D : Dt) (p : List Nat) (a b : Nat) : Int := dW D (pg p a) (pg p b)
def ld (D : Dt) (y a b : Nat) : Int := dL D (25 * y + 5 * a + b)
def right (D : Dt) (y : Nat) (p : List Nat) : Prop := (∀ s ∈ p, okE D s) ∧ (∀ i, i < dwn D → metW D i (wy D p (dwa D i).toNat (dwb D i).toNat)) ∧ ∀ a b, a < dm D → b < dm D → 0 < ld D y a b → wy D p a b ≠ -1
def csum (D : Dt) (y : Nat) (p : List Nat) : Int := sumF (fun a => sumF (fun b => ld D y a b * wy D p a b) (dm D)) (dm D)
noncomputable def cost (D : Dt) (y : Nat) (p : List Nat) : Int := @ite Int (right D y p) (Classical.propDecidable _) (csum D y p) (-1)
theorem cost_yes {D : Dt} {y : Nat} {p : List Nat} (h : right D y p) : cost D y p = csum D y p := if_pos h
theorem cost_no {D : Dt} {y : Nat} {p : List Nat} (h : ¬ right D y p) : cost D y p = -1 := if_neg h
/-- the class's memory holds the problem -/
def CD (D : Dt) (σ : Mem) : Prop := σ 1 7 = dn D ∧ σ 14 6 = dm D ∧ (∀ a b, a < dn D → b < dn D → σ 7 (6 * a + b) = dW D a b) ∧ (∀ a, a < dn D → σ 9 a = dO D a) ∧ σ 1 8 = dB D ∧ σ 16 = dL D ∧ σ 18 = dV D ∧ σ 14 7 = dwn D ∧ σ 20 = dwa D ∧ σ 22 = dwb D ∧ σ 24 = dwe D ∧ σ 26 = dwd D
theorem CD.same {D : Dt} {S : List Nat} {σ σ1 : Mem} (h : CD D σ) (hS : Same S σ σ1) (hn : ∀ a ∈ S, a ∉ [1, 7, 9, 14, 16, 18, 20, 22, 24, 26]) : CD D σ1 := by
  have e : ∀ a, a ∈ [1, 7, 9, 14, 16, 18, 20, 22, 24, 26] → σ1 a = σ a := fun a ha => hS a (fun q => hn a q ha)
  unfold CD at h ⊢
  rw [e 1 (by decide), e 7 (by decide), e 9 (by decide), e 14 (by decide), e 16 (by decide), e 18 (by decide), e 20 (by decide), e 22 (by decide), e 24 (by decide), e 26 (by decide)]
  exact h
/-! sums over all two -/
theorem sumF_add (f g : Nat → Int) : ∀ n, sumF (fun i => f i + g i) n = sumF f n + sumF g n
  | 0 => rfl
  | n + 1 => by
    have := sumF_add f g n
    simp only [sumF_succ] at this ⊢
    omega
theorem sumF_zero {f : Nat → Int} {n : Nat} (h : ∀ i, i < n → f i = 0) : sumF f n = 0 := by
  rw [sumF_cong h]
  induction n with
  | zero => rfl
  | succ n ih => rw [sumF_succ, ih (fun i hi => h i (by omega))]; rfl
/-- one behind the other: the pairs with the lower one first -/
def tri (g : Nat → Nat → Int) (m : Nat) : Int := sumF (fun a => sumF (fun j => g a (a + 1 + j)) (m - 1 - a)) m
theorem tri_succ (g : Nat → Nat → Int) (m : Nat) : tri g (m + 1) = tri g m + sumF (fun a => g a m) m := by
  unfold tri
  rw [sumF_succ, show m + 1 - 1 - m = 0 by omega, ← sumF_add]
  show sumF _ m + 0 = _
  rw [Int.add_zero]
  refine sumF_cong (fun a ha => ?_)
  rw [show m + 1 - 1 - a = (m - 1 - a) + 1 by omega, sumF_succ, show a + 1 + (m - 1 - a) = m by omega]
theorem square_tri (f : Nat → Nat → Int) : ∀ (m : Nat), (∀ a, a < m → f a a = 0) → sumF (fun a => sumF (f a) m) m = tri (fun a b => f a b + f b a) m
  | 0, _ => rfl
  | m + 1, h => by
    have ih := square_tri f m (fun a ha => h a (by omega))
    have h0 := h m (by omega)
    rw [tri_succ, ← ih, sumF_add]
    rw [sumF_succ]
    have e : sumF (fun a => sumF (f a) (m + 1)) m = sumF (fun a => sumF (f a) m) m + sumF (fun a => f a m) m := by
      rw [← sumF_add]
      exact sumF_cong (fun a _ => sumF_succ _ _)
    rw [e, sumF_succ, h0]
    have e2 : sumF (fun a => f m a) m = sumF (f m) m := rfl
    omega
theorem wy_sym {D : Dt} (hw : WF D) {p : List Nat} (hl : p.length = dm D) (hs : ∀ s ∈ p, s < dn D) {a b : Nat} (ha : a < dm D) (hb : b < dm D) : wy D p a b = wy D p b a := (hw.2.2.2.1 _ _ (hs _ (pg_mem (by omega))) (hs _ (pg_mem (by omega)))).2.2
theorem wy_self {D : Dt} (hw : WF D) {p : List Nat} (hl : p.length = dm D) (hs : ∀ s ∈ p, s < dn D) {a : Nat} (ha : a < dm D) : wy D p a a = 0 := hw.2.2.2.2.1 _ (hs _ (pg_mem (by omega)))
theorem wy_bd {D : Dt} (hw : WF D) {p : List Nat} (hl : p.length = dm D) (hs : ∀ s ∈ p, s < dn D) {a b : Nat} (ha : a < dm D) (hb : b < dm D) : -1 ≤ wy D p a b ∧ wy D p a b ≤ 36 := by
  have := hw.2.2.2.1 _ _ (hs _ (pg_mem (p := p) (i := a) (by omega))) (hs _ (pg_mem (p := p) (i := b) (by omega)))
  exact ⟨this.1, this.2.1⟩
theorem ld_bd {D : Dt} (hw : WF D) {y a b : Nat} (hy : y < 4) (ha : a < dm D) (hb : b < dm D) : 0 ≤ ld D y a b ∧ ld D y a b ≤ 99 := by
  have := hw.2.1
  exact hw.2.2.2.2.2.2.2.1 _ (by omega)
def bw (D : Dt) (y : Nat) (p : List Nat) (a b : Nat) : Int := (ld D y a b + ld D y b a) * wy D p a b
theorem csum_tri {D : Dt} (hw : WF D) {y : Nat} {p : List Nat} (hl : p.length = dm D) (hs : ∀ s ∈ p, s < dn D) : csum D y p = tri (bw D y p) (dm D) := by
  unfold csum
  rw [square_tri _ _ (fun a ha => by rw [wy_self hw hl hs ha, Int.mul_zero])]
  unfold tri
  refine sumF_cong (fun a ha => sumF_cong (fun j hj => ?_))
  show ld D y a (a + 1 + j) * wy D p a (a + 1 + j) + ld D y (a + 1 + j) a * wy D p (a + 1 + j) a = (ld D y a (a + 1 + j) + ld D y (a + 1 + j) a) * wy D p a (a + 1 + j)
  rw [wy_sym hw hl hs (a := a + 1 + j) (b := a) (by omega) ha, Int.add_mul]
theorem mul_bd {x w : Int} (h0 : 0 ≤ x) (h1 : x ≤ 198) (h2 : -1 ≤ w) (h3 : w ≤ 36) : -198 ≤ x * w ∧ x * w ≤ 7128 := by
  have a1 : x * w ≤ x * 36 := Int.mul_le_mul_of_nonneg_left h3 h0
  have a2 : x * (-1) ≤ x * w := Int.mul_le_mul_of_nonneg_left h2 h0
  constructor <;> omega
theorem sumF_bd2 {f : Nat → Int} {c d : Int} : ∀ {n : Nat}, (∀ i, i < n → -d ≤ f i ∧ f i ≤ c) → -(n * d) ≤ sumF f n ∧ sumF f n ≤ n * c
  | 0, _ => by simp [sumF]
  | n + 1, h => by
    have h1 := sumF_bd2 (n := n) (fun i hi => h i (by omega))
    have h2 := h n (by omega)
    rw [sumF_succ]
    have e1 : ((n + 1 : Nat) : Int) * c = (n : Int) * c + c := by rw [Int.natCast_succ, Int.add_mul]; omega
    have e2 : ((n + 1 : Nat) : Int) * d = (n : Int) * d + d := by rw [Int.natCast_succ, Int.add_mul]; omega
    omega
/-! Judge -/
set_option maxRecDepth 100000 in
theorem rX3_areExitsNear_0 {k1 : Nat} (hk1 : isSeats k1) {σ : Mem} {Q : Int → Mem → Prop} (h : GO none mX3_areExitsNear 2 [some (.inr 27), some (.inr k1), some (.inl 0)] [] σ Q) : CM mX3_areExitsNear [.inr 27, .inr k1] σ Q := by
  refine CM_of_GO (by decide +kernel) rfl (Nat.le_of_ble_eq_true rfl) ?_
  show GO none mX3_areExitsNear 0 [some (.inr 27), some (.inr k1), none] [] σ Q
  refine g_iconst dX3_areExitsNear_0 (by decide) ?_
  refine g_istore_n (ls' := [some (.inr 27), some (.inr k1), some (.inl 0)]) dX3_areExitsNear_1 rfl (by decide) rfl ?_
  exact h
set_option maxRecDepth 100000 in
theorem rX3_areExitsNear_2 {x2 : Int} {k1 : Nat} (hk1 : isSeats k1) {σ : Mem} {Q : Int → Mem → Prop} (h : ((σ k1 1) ≤ x2 → Q 1 σ) ∧ (x2 < (σ k1 1) → ((0 ≤ x2) ∧ (((x2 < 5) ∧ (((0 ≤ (σ (k1 + 2) (x2).toNat)) ∧ ((((σ (k1 + 2) (x2).toNat) < 6) ∧ ((σ 1 8 = 41 ∨ (σ 9 ((σ (k1 + 2) (x2).toNat)).toNat ≠ -1 ∧ σ 9 ((σ (k1 + 2) (x2).toNat)).toNat ≤ σ 1 8) → ((inR (x2 + 1)) ∧ (GO none mX3_areExitsNear 2 [some (.inr 27), some (.inr k1), some (.inl (x2 + 1))] [] σ Q))) ∧ (¬ (σ 1 8 = 41 ∨ (σ 9 ((σ (k1 + 2) (x2).toNat)).toNat ≠ -1 ∧ σ 9 ((σ (k1 + 2) (x2).toNat)).toNat ≤ σ 1 8)) → Q 0 σ))))))))))) : GO none mX3_areExitsNear 2 [some (.inr 27), some (.inr k1), some (.inl x2)] [] σ Q := by
  refine g_iload_n dX3_areExitsNear_2 rfl rfl ?_
  refine g_aload_n dX3_areExitsNear_3 rfl rfl ?_
  refine g_invVI (as := []) (rest := [.inl x2]) okX8_shops mlX3_26 hk1.1 hk1.2.1 ⟨_, _, rfl⟩ rfl ⟨Nat.le_of_ble_eq_true rfl, Nat.le_of_ble_eq_true rfl⟩ (Nat.le_of_ble_eq_true rfl) rfl dX3_areExitsNear_4 (c_X8_shops hk1) (Or.inl rfl) (fun v1 σ2 e3 => ?_)
  obtain ⟨e3a, e3b⟩ := e3; subst v1; subst σ2
  refine g_icmp_ge (tgt := 33) dX3_areExitsNear_7 (by decide) (fun c4 => ?_) (fun c4 => ?_)
  · have h := h.1 c4
    refine g_iconst dX3_areExitsNear_33 (by decide) ?_
    exact g_zreturn rfl dX3_areExitsNear_34 (by decide) h
  · have h := h.2 c4
    refine g_aload_n dX3_areExitsNear_10 rfl rfl ?_
    refine g_getR (r' := 1) flX3_9 (by decide) rfl (by decide) rfl dX3_areExitsNear_11 ?_
    refine g_aload_n dX3_areExitsNear_14 rfl rfl ?_
    refine g_iload_n dX3_areExitsNear_15 rfl rfl ?_
    obtain ⟨p5, h⟩ := h
    obtain ⟨p6, h⟩ := h
    refine g_invVI (as := [.inl x2]) (rest := [.inr 1]) okX8_at mlX3_38 hk1.1 hk1.2.1 ⟨_, _, rfl⟩ rfl ⟨Nat.le_of_ble_eq_true rfl, Nat.le_of_ble_eq_true rfl⟩ (Nat.le_of_ble_eq_true rfl) rfl dX3_areExitsNear_16 (c_X8_at hk1 p5 p6) (Or.inl rfl) (fun v7 σ8 e9 => ?_)
    obtain ⟨e9a, e9b⟩ := e9; subst v7; subst σ8
    obtain ⟨p10, h⟩ := h
    obtain ⟨p11, h⟩ := h
    refine g_invVI (as := [.inl (σ (k1 + 2) (x2).toNat)]) (rest := []) okX2_isOutNear mlX3_48 (by decide) rfl ⟨_, _, rfl⟩ rfl ⟨Nat.le_of_ble_eq_true rfl, Nat.le_of_ble_eq_true rfl⟩ (Nat.le_of_ble_eq_true rfl) rfl dX3_areExitsNear_19 (c_X2_isOutNear p10 p11) (Or.inr rfl) (fun v12 σ13 e14 => ?_)
    obtain ⟨e14a, e14b⟩ := e14; subst v12; subst σ13
    refine g_if_ne (tgt := 27) dX3_areExitsNear_22 (by decide) (fun c15 => ?_) (fun c15 => ?_)
    · have h := h.1 (ite_yes c15)
      obtain ⟨p16, h⟩ := h
      refine g_iinc (ls' := [some (.inr 27), some (.inr k1), some (.inl (x2 + 1))]) dX3_areExitsNear_27 (by decide) rfl p16 rfl ?_
      refine g_goto (tgt := 2) dX3_areExitsNear_30 (by decide) ?_
      exact h
    · have h := h.2 (ite_no c15)
      refine g_iconst dX3_areExitsNear_25 (by decide) ?_
      exact g_zreturn rfl dX3_areExitsNear_26 (by decide) h
set_option maxRecDepth 100000 in
theorem rX3_areWishesMet_0 {k1 : Nat} (hk1 : isSeats k1) {σ : Mem} {Q : Int → Mem → Prop} (h : GO none mX3_areWishesMet 2 [some (.inr 27), some (.inr k1), some (.inl 0), none, none] [] σ Q) : CM mX3_areWishesMet [.inr 27, .inr k1] σ Q := by
  refine CM_of_GO (by decide +kernel) rfl (Nat.le_of_ble_eq_true rfl) ?_
  show GO none mX3_areWishesMet 0 [some (.inr 27), some (.inr k1), none, none, none] [] σ Q
  refine g_iconst dX3_areWishesMet_0 (by decide) ?_
  refine g_istore_n (ls' := [some (.inr 27), some (.inr k1), some (.inl 0), none, none]) dX3_areWishesMet_1 rfl (by decide) rfl ?_
  exact h
set_option maxRecDepth 100000 in
theorem rX3_areWishesMet_2 {x2 : Int} {k1 : Nat} (hk1 : isSeats k1) {σ : Mem} {Q : Int → Mem → Prop} (h : ((σ 14 7) ≤ x2 → Q 1 σ) ∧ (x2 < (σ 14 7) → ((0 ≤ x2) ∧ (((x2 < 6) ∧ (((0 ≤ (σ 20 (x2).toNat)) ∧ ((((σ 20 (x2).toNat) < 5) ∧ (((0 ≤ (σ 22 (x2).toNat)) ∧ ((((σ 22 (x2).toNat) < 5) ∧ (((0 ≤ (σ (k1 + 2) ((σ 20 (x2).toNat)).toNat)) ∧ ((((σ (k1 + 2) ((σ 20 (x2).toNat)).toNat) < 6) ∧ (((0 ≤ (σ (k1 + 2) ((σ 22 (x2).toNat)).toNat)) ∧ ((((σ (k1 + 2) ((σ 22 (x2).toNat)).toNat) < 6) ∧ (((σ 24 (x2).toNat = 1 ∧ (σ 7 (6 * (σ (k1 + 2) ((σ 20 (x2).toNat)).toNat) + (σ (k1 + 2) ((σ 22 (x2).toNat)).toNat)).toNat) ≠ -1 ∧ (σ 7 (6 * (σ (k1 + 2) ((σ 20 (x2).toNat)).toNat) + (σ (k1 + 2) ((σ 22 (x2).toNat)).toNat)).toNat) ≤ σ 26 (x2).toNat) ∨ (σ 24 (x2).toNat ≠ 1 ∧ ((σ 7 (6 * (σ (k1 + 2) ((σ 20 (x2).toNat)).toNat) + (σ (k1 + 2) ((σ 22 (x2).toNat)).toNat)).toNat) = -1 ∨ σ 26 (x2).toNat ≤ (σ 7 (6 * (σ (k1 + 2) ((σ 20 (x2).toNat)).toNat) + (σ (k1 + 2) ((σ 22 (x2).toNat)).toNat)).toNat))) → ((inR (x2 + 1)) ∧ (GO none mX3_areWishesMet 2 [some (.inr 27), some (.inr k1), some (.inl (x2 + 1)), none, none] [] σ Q))) ∧ (¬ ((σ 24 (x2).toNat = 1 ∧ (σ 7 (6 * (σ (k1 + 2) ((σ 20 (x2).toNat)).toNat) + (σ (k1 + 2) ((σ 22 (x2).toNat)).toNat)).toNat) ≠ -1 ∧ (σ 7 (6 * (σ (k1 + 2) ((σ 20 (x2).toNat)).toNat) + (σ (k1 + 2) ((σ 22 (x2).toNat)).toNat)).toNat) ≤ σ 26 (x2).toNat) ∨ (σ 24 (x2).toNat ≠ 1 ∧ ((σ 7 (6 * (σ (k1 + 2) ((σ 20 (x2).toNat)).toNat) + (σ (k1 + 2) ((σ 22 (x2).toNat)).toNat)).toNat) = -1 ∨ σ 26 (x2).toNat ≤ (σ 7 (6 * (σ (k1 + 2) ((σ 20 (x2).toNat)).toNat) + (σ (k1 + 2) ((σ 22 (x2).toNat)).toNat)).toNat)))) → Q 0 σ))))))))))))))))))))))) : GO none mX3_areWishesMet 2 [some (.inr 27), some (.inr k1), some (.inl x2), none, none] [] σ Q := by
  refine g_iload_n dX3_areWishesMet_2 rfl rfl ?_
  refine g_aload_n dX3_areWishesMet_3 rfl rfl ?_
  refine g_getR (r' := 14) flX3_15 (by decide) rfl (by decide) rfl dX3_areWishesMet_4 ?_
  refine g_invVI (as := []) (rest := [.inl x2]) okX9_wishes mlX3_52 (by decide) rfl ⟨_, _, rfl⟩ rfl ⟨Nat.le_of_ble_eq_true rfl, Nat.le_of_ble_eq_true rfl⟩ (Nat.le_of_ble_eq_true rfl) rfl dX3_areWishesMet_7 (c_X9_wishes) (Or.inl rfl) (fun v1 σ2 e3 => ?_)
  obtain ⟨e3a, e3b⟩ := e3; subst v1; subst σ2
  refine g_icmp_ge (tgt := 69) dX3_areWishesMet_10 (by decide) (fun c4 => ?_) (fun c4 => ?_)
  · have h := h.1 c4
    refine g_iconst dX3_areWishesMet_69 (by decide) ?_
    exact g_zreturn rfl dX3_areWishesMet_70 (by decide) h
  · have h := h.2 c4
    refine g_aload_n dX3_areWishesMet_13 rfl rfl ?_
    refine g_aload_n dX3_areWishesMet_14 rfl rfl ?_
    refine g_getR (r' := 14) flX3_15 (by decide) rfl (by decide) rfl dX3_areWishesMet_15 ?_
    refine g_iload_n dX3_areWishesMet_18 rfl rfl ?_
    obtain ⟨p5, h⟩ := h
    obtain ⟨p6, h⟩ := h
    refine g_invVI (as := [.inl x2]) (rest := [.inr k1]) okX9_oneOf mlX3_55 (by decide) rfl ⟨_, _, rfl⟩ rfl ⟨Nat.le_of_ble_eq_true rfl, Nat.le_of_ble_eq_true rfl⟩ (Nat.le_of_ble_eq_true rfl) rfl dX3_areWishesMet_19 (c_X9_oneOf p5 p6) (Or.inl rfl) (fun v7 σ8 e9 => ?_)
    obtain ⟨e9a, e9b⟩ := e9; subst v7; subst σ8
    obtain ⟨p10, h⟩ := h
    obtain ⟨p11, h⟩ := h
    refine g_invVI (as := [.inl (σ 20 (x2).toNat)]) (rest := []) okX8_at mlX3_38 hk1.1 hk1.2.1 ⟨_, _, rfl⟩ rfl ⟨Nat.le_of_ble_eq_true rfl, Nat.le_of_ble_eq_true rfl⟩ (Nat.le_of_ble_eq_true rfl) rfl dX3_areWishesMet_22 (c_X8_at hk1 p10 p11) (Or.inl rfl) (fun v12 σ13 e14 => ?_)
    obtain ⟨e14a, e14b⟩ := e14; subst v12; subst σ13
    refine g_istore_n (ls' := [some (.inr 27), some (.inr k1), some (.inl x2), some (.inl (σ (k1 + 2) ((σ 20 (x2).toNat)).toNat)), none]) dX3_areWishesMet_25 rfl (by decide) rfl ?_
    refine g_aload_n dX3_areWishesMet_26 rfl rfl ?_
    refine g_aload_n dX3_areWishesMet_27 rfl rfl ?_
    refine g_getR (r' := 14) flX3_15 (by decide) rfl (by decide) rfl dX3_areWishesMet_28 ?_
    refine g_iload_n dX3_areWishesMet_31 rfl rfl ?_
    refine g_invVI (as := [.inl x2]) (rest := [.inr k1]) okX9_otherOf mlX3_58 (by decide) rfl ⟨_, _, rfl⟩ rfl ⟨Nat.le_of_ble_eq_true rfl, Nat.le_of_ble_eq_true rfl⟩ (Nat.le_of_ble_eq_true rfl) rfl dX3_areWishesMet_32 (c_X9_otherOf p5 p6) (Or.inl rfl) (fun v15 σ16 e17 => ?_)
    obtain ⟨e17a, e17b⟩ := e17; subst v15; subst σ16
    obtain ⟨p18, h⟩ := h
    obtain ⟨p19, h⟩ := h
    refine g_invVI (as := [.inl (σ 22 (x2).toNat)]) (rest := []) okX8_at mlX3_38 hk1.1 hk1.2.1 ⟨_, _, rfl⟩ rfl ⟨Nat.le_of_ble_eq_true rfl, Nat.le_of_ble_eq_true rfl⟩ (Nat.le_of_ble_eq_true rfl) rfl dX3_areWishesMet_35 (c_X8_at hk1 p18 p19) (Or.inl rfl) (fun v20 σ21 e22 => ?_)
    obtain ⟨e22a, e22b⟩ := e22; subst v20; subst σ21
    refine g_istore (ls' := [some (.inr 27), some (.inr k1), some (.inl x2), some (.inl (σ (k1 + 2) ((σ 20 (x2).toNat)).toNat)), some (.inl (σ (k1 + 2) ((σ 22 (x2).toNat)).toNat))]) dX3_areWishesMet_38 (by decide) rfl ?_
    refine g_aload_n dX3_areWishesMet_40 rfl rfl ?_
    refine g_getR (r' := 14) flX3_15 (by decide) rfl (by decide) rfl dX3_areWishesMet_41 ?_
    refine g_iload_n dX3_areWishesMet_44 rfl rfl ?_
    refine g_aload_n dX3_areWishesMet_45 rfl rfl ?_
    refine g_getR (r' := 1) flX3_9 (by decide) rfl (by decide) rfl dX3_areWishesMet_46 ?_
    refine g_iload_n dX3_areWishesMet_49 rfl rfl ?_
    refine g_iload dX3_areWishesMet_50 rfl ?_
    obtain ⟨p23, h⟩ := h
    obtain ⟨p24, h⟩ := h
    obtain ⟨p25, h⟩ := h
    obtain ⟨p26, h⟩ := h
    refine g_invVI (as := [.inl (σ (k1 + 2) ((σ 20 (x2).toNat)).toNat), .inl (σ (k1 + 2) ((σ 22 (x2).toNat)).toNat)]) (rest := [.inl x2, .inr 14]) okX2_wayBetween mlX3_42 (by decide) rfl ⟨_, _, rfl⟩ rfl ⟨Nat.le_of_ble_eq_true rfl, Nat.le_of_ble_eq_true rfl⟩ (Nat.le_of_ble_eq_true rfl) rfl dX3_areWishesMet_52 (c_X2_wayBetween p23 p24 p25 p26) (Or.inl rfl) (fun v27 σ28 e29 => ?_)
    obtain ⟨e29a, e29b⟩ := e29; subst v27; subst σ28
    refine g_invVI (as := [.inl x2, .inl (σ 7 (6 * (σ (k1 + 2) ((σ 20 (x2).toNat)).toNat) + (σ (k1 + 2) ((σ 22 (x2).toNat)).toNat)).toNat)]) (rest := []) okX9_isMet mlX3_61 (by decide) rfl ⟨_, _, rfl⟩ rfl ⟨Nat.le_of_ble_eq_true rfl, Nat.le_of_ble_eq_true rfl⟩ (Nat.le_of_ble_eq_true rfl) rfl dX3_areWishesMet_55 (c_X9_isMet p5 p6) (Or.inr rfl) (fun v30 σ31 e32 => ?_)
    obtain ⟨e32a, e32b⟩ := e32; subst v30; subst σ31
    refine g_if_ne (tgt := 63) dX3_areWishesMet_58 (by decide) (fun c33 => ?_) (fun c33 => ?_)
    · have h := h.1 (ite_yes c33)
      obtain ⟨p34, h⟩ := h
      refine g_iinc (ls' := [some (.inr 27), some (.inr k1), some (.inl (x2 + 1)), some (.inl (σ (k1 + 2) ((σ 20 (x2).toNat)).toNat)), some (.inl (σ (k1 + 2) ((σ 22 (x2).toNat)).toNat))]) dX3_areWishesMet_63 (by decide) rfl p34 rfl ?_
      refine g_goto (tgt := 2) dX3_areWishesMet_66 (by decide) ?_
      refine g_kill (i := 3) (ls' := [some (.inr 27), some (.inr k1), some (.inl (x2 + 1)), none, some (.inl (σ (k1 + 2) ((σ 22 (x2).toNat)).toNat))]) rfl ?_
      refine g_kill (i := 4) (ls' := [some (.inr 27), some (.inr k1), some (.inl (x2 + 1)), none, none]) rfl ?_
      exact h
    · have h := h.2 (ite_no c33)
      refine g_iconst dX3_areWishesMet_61 (by decide) ?_
      exact g_zreturn rfl dX3_areWishesMet_62 (by decide) h
set_option maxRecDepth 100000 in
theorem rX3_costOf_0 {x1 : Int} {k2 : Nat} (hk2 : isSeats k2) {σ : Mem} {Q : Int → Mem → Prop} (h : CM mX3_areExitsNear [.inr 27, .inr k2] σ (fun v1 σ2 => (v1 = 0 → Q (-1) σ2) ∧ (v1 ≠ 0 → CM mX3_areWishesMet [.inr 27, .inr k2] σ2 (fun v5 σ6 => (v5 ≠ 0 → GO none mX3_costOf 23 [some (.inr 27), some (.inl x1), some (.inr k2), some (.inl 0), some (.inl 0), none, none, none] [] σ6 Q) ∧ (v5 = 0 → Q (-1) σ6))))) : CM mX3_costOf [.inr 27, .inl x1, .inr k2] σ Q := by
  refine CM_of_GO (by decide +kernel) rfl (Nat.le_of_ble_eq_true rfl) ?_
  show GO none mX3_costOf 0 [some (.inr 27), some (.inl x1), some (.inr k2), none, none, none, none, none] [] σ Q
  refine g_aload_n dX3_costOf_0 rfl rfl ?_
  refine g_aload_n dX3_costOf_1 rfl rfl ?_
  refine g_invVI (as := [.inr k2]) (rest := []) okX3_areExitsNear mlX3_19 (by decide) rfl ⟨_, _, rfl⟩ rfl ⟨Nat.le_of_ble_eq_true rfl, Nat.le_of_ble_eq_true rfl⟩ (Nat.le_of_ble_eq_true rfl) rfl dX3_costOf_2 h (Or.inr rfl) (fun v1 σ2 e3 => ?_)
  have h := e3
  refine g_if_eq (tgt := 16) dX3_costOf_5 (by decide) (fun c4 => ?_) (fun c4 => ?_)
  · have h := h.1 c4
    refine g_iconst dX3_costOf_16 (by decide) ?_
    exact g_ireturn rfl dX3_costOf_17 h
  · have h := h.2 c4
    refine g_aload_n dX3_costOf_8 rfl rfl ?_
    refine g_aload_n dX3_costOf_9 rfl rfl ?_
    refine g_invVI (as := [.inr k2]) (rest := []) okX3_areWishesMet mlX3_23 (by decide) rfl ⟨_, _, rfl⟩ rfl ⟨Nat.le_of_ble_eq_true rfl, Nat.le_of_ble_eq_true rfl⟩ (Nat.le_of_ble_eq_true rfl) rfl dX3_costOf_10 h (Or.inr rfl) (fun v5 σ6 e7 => ?_)
    have h := e7
    refine g_if_ne (tgt := 18) dX3_costOf_13 (by decide) (fun c8 => ?_) (fun c8 => ?_)
    · have h := h.1 c8
      refine g_iconst dX3_costOf_18 (by decide) ?_
      refine g_istore_n (ls' := [some (.inr 27), some (.inl x1), some (.inr k2), some (.inl 0), none, none, none, none]) dX3_costOf_19 rfl (by decide) rfl ?_
      refine g_iconst dX3_costOf_20 (by decide) ?_
      refine g_istore (ls' := [some (.inr 27), some (.inl x1), some (.inr k2), some (.inl 0), some (.inl 0), none, none, none]) dX3_costOf_21 (by decide) rfl ?_
      exact h
    · have h := h.2 c8
      refine g_iconst dX3_costOf_16 (by decide) ?_
      exact g_ireturn rfl dX3_costOf_17 h
set_option maxRecDepth 100000 in
theorem rX3_costOf_23 {x1 x3 x4 : Int} {k2 : Nat} (hk2 : isSeats k2) {σ : Mem} {Q : Int → Mem → Prop} (h : ((σ k2 1) ≤ x4 → Q x3 σ) ∧ (x4 < (σ k2 1) → ((inR (x4 + 1)) ∧ (GO none mX3_costOf 38 [some (.inr 27), some (.inl x1), some (.inr k2), some (.inl x3), some (.inl x4), some (.inl (x4 + 1)), none, none] [] σ Q)))) : GO none mX3_costOf 23 [some (.inr 27), some (.inl x1), some (.inr k2), some (.inl x3), some (.inl x4), none, none, none] [] σ Q := by
  refine g_iload dX3_costOf_23 rfl ?_
  refine g_aload_n dX3_costOf_25 rfl rfl ?_
  refine g_invVI (as := []) (rest := [.inl x4]) okX8_shops mlX3_26 hk2.1 hk2.2.1 ⟨_, _, rfl⟩ rfl ⟨Nat.le_of_ble_eq_true rfl, Nat.le_of_ble_eq_true rfl⟩ (Nat.le_of_ble_eq_true rfl) rfl dX3_costOf_26 (c_X8_shops hk2) (Or.inl rfl) (fun v1 σ2 e3 => ?_)
  obtain ⟨e3a, e3b⟩ := e3; subst v1; subst σ2
  refine g_icmp_ge (tgt := 115) dX3_costOf_29 (by decide) (fun c4 => ?_) (fun c4 => ?_)
  · have h := h.1 c4
    refine g_iload_n dX3_costOf_115 rfl rfl ?_
    exact g_ireturn rfl dX3_costOf_116 h
  · have h := h.2 c4
    refine g_iload dX3_costOf_32 rfl ?_
    refine g_iconst dX3_costOf_34 (by decide) ?_
    obtain ⟨p5, h⟩ := h
    refine g_iadd dX3_costOf_35 p5 ?_
    refine g_istore (ls' := [some (.inr 27), some (.inl x1), some (.inr k2), some (.inl x3), some (.inl x4), some (.inl (x4 + 1)), none, none]) dX3_costOf_36 (by decide) rfl ?_
    exact h
set_option maxRecDepth 100000 in
theorem rX3_costOf_38 {x1 x3 x4 x5 : Int} {k2 : Nat} (hk2 : isSeats k2) {σ : Mem} {Q : Int → Mem → Prop} (h : ((σ k2 1) ≤ x5 → ((inR (x4 + 1)) ∧ (GO none mX3_costOf 23 [some (.inr 27), some (.inl x1), some (.inr k2), some (.inl x3), some (.inl (x4 + 1)), none, none, none] [] σ Q))) ∧ (x5 < (σ k2 1) → ((0 ≤ x1) ∧ (((x1 < 4) ∧ (((0 ≤ x4) ∧ (((x4 < 5) ∧ (((0 ≤ x5) ∧ (((x5 < 5) ∧ (((inR (σ 16 (25 * x1 + 5 * x4 + x5).toNat + σ 16 (25 * x1 + 5 * x5 + x4).toNat)) ∧ (((0 ≤ (σ (k2 + 2) (x4).toNat)) ∧ ((((σ (k2 + 2) (x4).toNat) < 6) ∧ (((0 ≤ (σ (k2 + 2) (x5).toNat)) ∧ ((((σ (k2 + 2) (x5).toNat) < 6) ∧ (((σ 16 (25 * x1 + 5 * x4 + x5).toNat + σ 16 (25 * x1 + 5 * x5 + x4).toNat) ≤ 0 → ((inR ((σ 16 (25 * x1 + 5 * x4 + x5).toNat + σ 16 (25 * x1 + 5 * x5 + x4).toNat) * (σ 7 (6 * (σ (k2 + 2) (x4).toNat) + (σ (k2 + 2) (x5).toNat)).toNat))) ∧ (((inR (x3 + ((σ 16 (25 * x1 + 5 * x4 + x5).toNat + σ 16 (25 * x1 + 5 * x5 + x4).toNat) * (σ 7 (6 * (σ (k2 + 2) (x4).toNat) + (σ (k2 + 2) (x5).toNat)).toNat)))) ∧ (((inR (x5 + 1)) ∧ (GO none mX3_costOf 38 [some (.inr 27), some (.inl x1), some (.inr k2), some (.inl (x3 + ((σ 16 (25 * x1 + 5 * x4 + x5).toNat + σ 16 (25 * x1 + 5 * x5 + x4).toNat) * (σ 7 (6 * (σ (k2 + 2) (x4).toNat) + (σ (k2 + 2) (x5).toNat)).toNat)))), some (.inl x4), some (.inl (x5 + 1)), none, none] [] σ Q))))))) ∧ (0 < (σ 16 (25 * x1 + 5 * x4 + x5).toNat + σ 16 (25 * x1 + 5 * x5 + x4).toNat) → ((σ 7 (6 * (σ (k2 + 2) (x4).toNat) + (σ (k2 + 2) (x5).toNat)).toNat) ≠ (-1) → ((inR ((σ 16 (25 * x1 + 5 * x4 + x5).toNat + σ 16 (25 * x1 + 5 * x5 + x4).toNat) * (σ 7 (6 * (σ (k2 + 2) (x4).toNat) + (σ (k2 + 2) (x5).toNat)).toNat))) ∧ (((inR (x3 + ((σ 16 (25 * x1 + 5 * x4 + x5).toNat + σ 16 (25 * x1 + 5 * x5 + x4).toNat) * (σ 7 (6 * (σ (k2 + 2) (x4).toNat) + (σ (k2 + 2) (x5).toNat)).toNat)))) ∧ (((inR (x5 + 1)) ∧ (GO none mX3_costOf 38 [some (.inr 27), some (.inl x1), some (.inr k2), some (.inl (x3 + ((σ 16 (25 * x1 + 5 * x4 + x5).toNat + σ 16 (25 * x1 + 5 * x5 + x4).toNat) * (σ 7 (6 * (σ (k2 + 2) (x4).toNat) + (σ (k2 + 2) (x5).toNat)).toNat)))), some (.inl x4), some (.inl (x5 + 1)), none, none] [] σ Q))))))) ∧ ((σ 7 (6 * (σ (k2 + 2) (x4).toNat) + (σ (k2 + 2) (x5).toNat)).toNat) = (-1) → Q (-1) σ)))))))))))))))))))))))))) : GO none mX3_costOf 38 [some (.inr 27), some (.inl x1), some (.inr k2), some (.inl x3), some (.inl x4), some (.inl x5), none, none] [] σ Q := by
  refine g_iload dX3_costOf_38 rfl ?_
  refine g_aload_n dX3_costOf_40 rfl rfl ?_
  refine g_invVI (as := []) (rest := [.inl x5]) okX8_shops mlX3_26 hk2.1 hk2.2.1 ⟨_, _, rfl⟩ rfl ⟨Nat.le_of_ble_eq_true rfl, Nat.le_of_ble_eq_true rfl⟩ (Nat.le_of_ble_eq_true rfl) rfl dX3_costOf_41 (c_X8_shops hk2) (Or.inl rfl) (fun v1 σ2 e3 => ?_)
  obtain ⟨e3a, e3b⟩ := e3; subst v1; subst σ2
  refine g_icmp_ge (tgt := 109) dX3_costOf_44 (by decide) (fun c4 => ?_) (fun c4 => ?_)
  · have h := h.1 c4
    obtain ⟨p5, h⟩ := h
    refine g_iinc (ls' := [some (.inr 27), some (.inl x1), some (.inr k2), some (.inl x3), some (.inl (x4 + 1)), some (.inl x5), none, none]) dX3_costOf_109 (by decide) rfl p5 rfl ?_
    refine g_goto (tgt := 23) dX3_costOf_112 (by decide) ?_
    refine g_kill (i := 5) (ls' := [some (.inr 27), some (.inl x1), some (.inr k2), some (.inl x3), some (.inl (x4 + 1)), none, none, none]) rfl ?_
    exact h
  · have h := h.2 c4
    refine g_aload_n dX3_costOf_47 rfl rfl ?_
    refine g_getR (r' := 14) flX3_15 (by decide) rfl (by decide) rfl dX3_costOf_48 ?_
    refine g_iload_n dX3_costOf_51 rfl rfl ?_
    refine g_iload dX3_costOf_52 rfl ?_
    refine g_iload dX3_costOf_54 rfl ?_
    obtain ⟨p6, h⟩ := h
    obtain ⟨p7, h⟩ := h
    obtain ⟨p8, h⟩ := h
    obtain ⟨p9, h⟩ := h
    obtain ⟨p10, h⟩ := h
    obtain ⟨p11, h⟩ := h
    obtain ⟨p12, h⟩ := h
    refine g_invVI (as := [.inl x1, .inl x4, .inl x5]) (rest := []) okX9_bothWays mlX3_32 (by decide) rfl ⟨_, _, rfl⟩ rfl ⟨Nat.le_of_ble_eq_true rfl, Nat.le_of_ble_eq_true rfl⟩ (Nat.le_of_ble_eq_true rfl) rfl dX3_costOf_56 (c_X9_bothWays p6 p7 p8 p9 p10 p11 p12) (Or.inl rfl) (fun v13 σ14 e15 => ?_)
    obtain ⟨e15a, e15b⟩ := e15; subst v13; subst σ14
    refine g_istore (ls' := [some (.inr 27), some (.inl x1), some (.inr k2), some (.inl x3), some (.inl x4), some (.inl x5), some (.inl (σ 16 (25 * x1 + 5 * x4 + x5).toNat + σ 16 (25 * x1 + 5 * x5 + x4).toNat)), none]) dX3_costOf_59 (by decide) rfl ?_
    refine g_aload_n dX3_costOf_61 rfl rfl ?_
    refine g_getR (r' := 1) flX3_9 (by decide) rfl (by decide) rfl dX3_costOf_62 ?_
    refine g_aload_n dX3_costOf_65 rfl rfl ?_
    refine g_iload dX3_costOf_66 rfl ?_
    refine g_invVI (as := [.inl x4]) (rest := [.inr 1]) okX8_at mlX3_38 hk2.1 hk2.2.1 ⟨_, _, rfl⟩ rfl ⟨Nat.le_of_ble_eq_true rfl, Nat.le_of_ble_eq_true rfl⟩ (Nat.le_of_ble_eq_true rfl) rfl dX3_costOf_68 (c_X8_at hk2 p8 p9) (Or.inl rfl) (fun v16 σ17 e18 => ?_)
    obtain ⟨e18a, e18b⟩ := e18; subst v16; subst σ17
    refine g_aload_n dX3_costOf_71 rfl rfl ?_
    refine g_iload dX3_costOf_72 rfl ?_
    refine g_invVI (as := [.inl x5]) (rest := [.inl (σ (k2 + 2) (x4).toNat), .inr 1]) okX8_at mlX3_38 hk2.1 hk2.2.1 ⟨_, _, rfl⟩ rfl ⟨Nat.le_of_ble_eq_true rfl, Nat.le_of_ble_eq_true rfl⟩ (Nat.le_of_ble_eq_true rfl) rfl dX3_costOf_74 (c_X8_at hk2 p10 p11) (Or.inl rfl) (fun v19 σ20 e21 => ?_)
    obtain ⟨e21a, e21b⟩ := e21; subst v19; subst σ20
    obtain ⟨p22, h⟩ := h
    obtain ⟨p23, h⟩ := h
    obtain ⟨p24, h⟩ := h
    obtain ⟨p25, h⟩ := h
    refine g_invVI (as := [.inl (σ (k2 + 2) (x4).toNat), .inl (σ (k2 + 2) (x5).toNat)]) (rest := []) okX2_wayBetween mlX3_42 (by decide) rfl ⟨_, _, rfl⟩ rfl ⟨Nat.le_of_ble_eq_true rfl, Nat.le_of_ble_eq_true rfl⟩ (Nat.le_of_ble_eq_true rfl) rfl dX3_costOf_77 (c_X2_wayBetween p22 p23 p24 p25) (Or.inl rfl) (fun v26 σ27 e28 => ?_)
    obtain ⟨e28a, e28b⟩ := e28; subst v26; subst σ27
    refine g_istore (ls' := [some (.inr 27), some (.inl x1), some (.inr k2), some (.inl x3), some (.inl x4), some (.inl x5), some (.inl (σ 16 (25 * x1 + 5 * x4 + x5).toNat + σ 16 (25 * x1 + 5 * x5 + x4).toNat)), some (.inl (σ 7 (6 * (σ (k2 + 2) (x4).toNat) + (σ (k2 + 2) (x5).toNat)).toNat))]) dX3_costOf_80 (by decide) rfl ?_
    refine g_iload dX3_costOf_82 rfl ?_
    refine g_if_le (tgt := 95) dX3_costOf_84 (by decide) (fun c29 => ?_) (fun c29 => ?_)
    · have h := h.1 c29
      refine g_iload_n dX3_costOf_95 rfl rfl ?_
      refine g_iload dX3_costOf_96 rfl ?_
      refine g_iload dX3_costOf_98 rfl ?_
      obtain ⟨p30, h⟩ := h
      refine g_imul dX3_costOf_100 p30 ?_
      obtain ⟨p31, h⟩ := h
      refine g_iadd dX3_costOf_101 p31 ?_
      refine g_istore_n (ls' := [some (.inr 27), some (.inl x1), some (.inr k2), some (.inl (x3 + ((σ 16 (25 * x1 + 5 * x4 + x5).toNat + σ 16 (25 * x1 + 5 * x5 + x4).toNat) * (σ 7 (6 * (σ (k2 + 2) (x4).toNat) + (σ (k2 + 2) (x5).toNat)).toNat)))), some (.inl x4), some (.inl x5), some (.inl (σ 16 (25 * x1 + 5 * x4 + x5).toNat + σ 16 (25 * x1 + 5 * x5 + x4).toNat)), some (.inl (σ 7 (6 * (σ (k2 + 2) (x4).toNat) + (σ (k2 + 2) (x5).toNat)).toNat))]) dX3_costOf_102 rfl (by decide) rfl ?_
      obtain ⟨p32, h⟩ := h
      refine g_iinc (ls' := [some (.inr 27), some (.inl x1), some (.inr k2), some (.inl (x3 + ((σ 16 (25 * x1 + 5 * x4 + x5).toNat + σ 16 (25 * x1 + 5 * x5 + x4).toNat) * (σ 7 (6 * (σ (k2 + 2) (x4).toNat) + (σ (k2 + 2) (x5).toNat)).toNat)))), some (.inl x4), some (.inl (x5 + 1)), some (.inl (σ 16 (25 * x1 + 5 * x4 + x5).toNat + σ 16 (25 * x1 + 5 * x5 + x4).toNat)), some (.inl (σ 7 (6 * (σ (k2 + 2) (x4).toNat) + (σ (k2 + 2) (x5).toNat)).toNat))]) dX3_costOf_103 (by decide) rfl p32 rfl ?_
      refine g_goto (tgt := 38) dX3_costOf_106 (by decide) ?_
      refine g_kill (i := 6) (ls' := [some (.inr 27), some (.inl x1), some (.inr k2), some (.inl (x3 + ((σ 16 (25 * x1 + 5 * x4 + x5).toNat + σ 16 (25 * x1 + 5 * x5 + x4).toNat) * (σ 7 (6 * (σ (k2 + 2) (x4).toNat) + (σ (k2 + 2) (x5).toNat)).toNat)))), some (.inl x4), some (.inl (x5 + 1)), none, some (.inl (σ 7 (6 * (σ (k2 + 2) (x4).toNat) + (σ (k2 + 2) (x5).toNat)).toNat))]) rfl ?_
      refine g_kill (i := 7) (ls' := [some (.inr 27), some (.inl x1), some (.inr k2), some (.inl (x3 + ((σ 16 (25 * x1 + 5 * x4 + x5).toNat + σ 16 (25 * x1 + 5 * x5 + x4).toNat) * (σ 7 (6 * (σ (k2 + 2) (x4).toNat) + (σ (k2 + 2) (x5).toNat)).toNat)))), some (.inl x4), some (.inl (x5 + 1)), none, none]) rfl ?_
      exact h
    · have h := h.2 c29
      refine g_iload dX3_costOf_87 rfl ?_
      refine g_iconst dX3_costOf_89 (by decide) ?_
      refine g_icmp_ne (tgt := 95) dX3_costOf_90 (by decide) (fun c33 => ?_) (fun c33 => ?_)
      · have h := h.1 c33
        refine g_iload_n dX3_costOf_95 rfl rfl ?_
        refine g_iload dX3_costOf_96 rfl ?_
        refine g_iload dX3_costOf_98 rfl ?_
        obtain ⟨p34, h⟩ := h
        refine g_imul dX3_costOf_100 p34 ?_
        obtain ⟨p35, h⟩ := h
        refine g_iadd dX3_costOf_101 p35 ?_
        refine g_istore_n (ls' := [some (.inr 27), some (.inl x1), some (.inr k2), some (.inl (x3 + ((σ 16 (25 * x1 + 5 * x4 + x5).toNat + σ 16 (25 * x1 + 5 * x5 + x4).toNat) * (σ 7 (6 * (σ (k2 + 2) (x4).toNat) + (σ (k2 + 2) (x5).toNat)).toNat)))), some (.inl x4), some (.inl x5), some (.inl (σ 16 (25 * x1 + 5 * x4 + x5).toNat + σ 16 (25 * x1 + 5 * x5 + x4).toNat)), some (.inl (σ 7 (6 * (σ (k2 + 2) (x4).toNat) + (σ (k2 + 2) (x5).toNat)).toNat))]) dX3_costOf_102 rfl (by decide) rfl ?_
        obtain ⟨p36, h⟩ := h
        refine g_iinc (ls' := [some (.inr 27), some (.inl x1), some (.inr k2), some (.inl (x3 + ((σ 16 (25 * x1 + 5 * x4 + x5).toNat + σ 16 (25 * x1 + 5 * x5 + x4).toNat) * (σ 7 (6 * (σ (k2 + 2) (x4).toNat) + (σ (k2 + 2) (x5).toNat)).toNat)))), some (.inl x4), some (.inl (x5 + 1)), some (.inl (σ 16 (25 * x1 + 5 * x4 + x5).toNat + σ 16 (25 * x1 + 5 * x5 + x4).toNat)), some (.inl (σ 7 (6 * (σ (k2 + 2) (x4).toNat) + (σ (k2 + 2) (x5).toNat)).toNat))]) dX3_costOf_103 (by decide) rfl p36 rfl ?_
        refine g_goto (tgt := 38) dX3_costOf_106 (by decide) ?_
        refine g_kill (i := 6) (ls' := [some (.inr 27), some (.inl x1), some (.inr k2), some (.inl (x3 + ((σ 16 (25 * x1 + 5 * x4 + x5).toNat + σ 16 (25 * x1 + 5 * x5 + x4).toNat) * (σ 7 (6 * (σ (k2 + 2) (x4).toNat) + (σ (k2 + 2) (x5).toNat)).toNat)))), some (.inl x4), some (.inl (x5 + 1)), none, some (.inl (σ 7 (6 * (σ (k2 + 2) (x4).toNat) + (σ (k2 + 2) (x5).toNat)).toNat))]) rfl ?_
        refine g_kill (i := 7) (ls' := [some (.inr 27), some (.inl x1), some (.inr k2), some (.inl (x3 + ((σ 16 (25 * x1 + 5 * x4 + x5).toNat + σ 16 (25 * x1 + 5 * x5 + x4).toNat) * (σ 7 (6 * (σ (k2 + 2) (x4).toNat) + (σ (k2 + 2) (x5).toNat)).toNat)))), some (.inl x4), some (.inl (x5 + 1)), none, none]) rfl ?_
        exact h
      · have h := h.2 c33
        refine g_iconst dX3_costOf_93 (by decide) ?_
        exact g_ireturn rfl dX3_costOf_94 h
theorem c_X3_areExitsNear {D : Dt} {k : Nat} {p : List Nat} {σ : Mem} (hw : WF D) (hD : CD D σ) (hk : isSeats k) (hp : hld σ (k + 2) p) (hc : σ k 1 = p.length) (hl : p.length = dm D) (hs : ∀ s ∈ p, s < dn D) : CM mX3_areExitsNear [.inr 27, .inr k] σ (fun v σ1 => ((v = 1 ∧ ∀ s ∈ p, okE D s) ∨ (v = 0 ∧ ¬ ∀ s ∈ p, okE D s)) ∧ σ1 = σ) := by
  have hm := hw.2.1
  have key : ∀ (d i : Nat), i + d = p.length → (∀ j, j < i → okE D (pg p j)) → GO none mX3_areExitsNear 2 [some (.inr 27), some (.inr k), some (.inl (i : Int))] [] σ (fun v σ1 => ((v = 1 ∧ ∀ s ∈ p, okE D s) ∨ (v = 0 ∧ ¬ ∀ s ∈ p, okE D s)) ∧ σ1 = σ) := by
    intro d
    induction d with
    | zero =>
      intro i hd ho
      refine rX3_areExitsNear_2 hk ⟨fun h => ⟨Or.inl ⟨rfl, fun s hs => ?_⟩, rfl⟩, fun h => by omega⟩
      obtain ⟨j, hj, rfl⟩ := List.getElem_of_mem hs
      have := ho j (by omega)
      rw [pg_eq hj] at this
      exact this
    | succ d ih =>
      intro i hd ho
      have hi : i < p.length := by omega
      have e1 := hp.pg hi
      have hlt := hs _ (pg_mem hi)
      have hn := hw.1
      refine rX3_areExitsNear_2 hk ⟨fun h => by omega, fun h => ⟨by omega, by omega, ?_⟩⟩
      rw [Int.toNat_natCast, e1, Int.toNat_natCast, hD.2.2.2.1 _ hlt, hD.2.2.2.2.1]
      refine ⟨by omega, by omega, fun h1 => ⟨by omega, ih (i + 1) (by omega) (fun j hj => ?_)⟩, fun h1 => ⟨Or.inr ⟨rfl, fun h2 => h1 (h2 _ (pg_mem hi))⟩, rfl⟩⟩
      by_cases e : j = i
      · rw [e]; exact h1
      · exact ho j (by omega)
  exact rX3_areExitsNear_0 hk (key p.length 0 (by omega) (fun j hj => by omega))
theorem wy_cls {D : Dt} {σ : Mem} {k : Nat} {p : List Nat} (hD : CD D σ) (hp : hld σ (k + 2) p) (hs : ∀ s ∈ p, s < dn D) {a b : Nat} (ha : a < p.length) (hb : b < p.length) : σ 7 (6 * σ (k + 2) a + σ (k + 2) b).toNat = wy D p a b := by
  rw [hp.pg ha, hp.pg hb, show (6 * (pg p a : Int) + (pg p b : Int)).toNat = 6 * pg p a + pg p b by omega]
  exact hD.2.2.1 _ _ (hs _ (pg_mem ha)) (hs _ (pg_mem hb))
def metAll (D : Dt) (p : List Nat) : Prop := ∀ i, i < dwn D → metW D i (wy D p (dwa D i).toNat (dwb D i).toNat)
theorem c_X3_areWishesMet {D : Dt} {k : Nat} {p : List Nat} {σ : Mem} (hw : WF D) (hD : CD D σ) (hk : isSeats k) (hp : hld σ (k + 2) p) (hl : p.length = dm D) (hs : ∀ s ∈ p, s < dn D) : CM mX3_areWishesMet [.inr 27, .inr k] σ (fun v σ1 => ((v = 1 ∧ metAll D p) ∨ (v = 0 ∧ ¬ metAll D p)) ∧ σ1 = σ) := by
  obtain ⟨hn, hm, hmn, -, -, -, -, -, -, -, hwn, hwi⟩ := id hw
  obtain ⟨-, -, -, -, -, -, -, e7, ea, eb, ee, ed⟩ := id hD
  have key : ∀ (d i : Nat), i + d = dwn D → (∀ j, j < i → metW D j (wy D p (dwa D j).toNat (dwb D j).toNat)) → GO none mX3_areWishesMet 2 [some (.inr 27), some (.inr k), some (.inl (i : Int)), none, none] [] σ (fun v σ1 => ((v = 1 ∧ metAll D p) ∨ (v = 0 ∧ ¬ metAll D p)) ∧ σ1 = σ) := by
    intro d
    induction d with
    | zero =>
      intro i hd ho
      exact rX3_areWishesMet_2 hk ⟨fun h => ⟨Or.inl ⟨rfl, fun j hj => ho j (by omega)⟩, rfl⟩, fun h => by omega⟩
    | succ d ih =>
      intro i hd ho
      obtain ⟨⟨a1, a2⟩, ⟨b1, b2⟩, -, -⟩ := hwi i (by omega)
      have la : (dwa D i).toNat < p.length := by omega
      have lb : (dwb D i).toNat < p.length := by omega
      have ha := hs _ (pg_mem la)
      have hb := hs _ (pg_mem lb)
      refine rX3_areWishesMet_2 hk ⟨fun h => by omega, fun h => ⟨by omega, by omega, ?_⟩⟩
      rw [Int.toNat_natCast, ea, eb, ee, ed, wy_cls hD hp hs la lb, hp.pg la, hp.pg lb]
      refine ⟨by omega, by omega, by omega, by omega, by omega, by omega, by omega, by omega, fun h1 => ⟨by omega, ih (i + 1) (by omega) (fun j hj => ?_)⟩, fun h1 => ⟨Or.inr ⟨rfl, fun h2 => h1 (h2 i (by omega))⟩, rfl⟩⟩
      by_cases e : j = i
      · rw [e]; exact h1
      · exact ho j (by omega)
  exact rX3_areWishesMet_0 hk (key (dwn D) 0 (by omega) (fun j hj => by omega))
theorem c_X3_costOf {D : Dt} {k y : Nat} {x1 : Int} {p : List Nat} {σ : Mem} (hw : WF D) (hD : CD D σ) (hk : isSeats k) (hp : hld σ (k + 2) p) (hc : σ k 1 = p.length) (hl : p.length = dm D) (hs : ∀ s ∈ p, s < dn D) (hy : y < 4) (ey : x1 = y) : CM mX3_costOf [.inr 27, .inl x1, .inr k] σ (fun v σ1 => v = cost D y p ∧ σ1 = σ) := by
  subst ey
  have hn := hw.1
  have hm := hw.2.1
  refine rX3_costOf_0 hk (CM.mono (fun v σ1 h => ?_) (c_X3_areExitsNear hw hD hk hp hc hl hs))
  obtain ⟨h, rfl⟩ := h
  refine ⟨fun hv => ⟨?_, rfl⟩, fun hv => CM.mono (fun v2 σ2 h2 => ?_) (c_X3_areWishesMet hw hD hk hp hl hs)⟩
  · rcases h with ⟨h1, -⟩ | ⟨-, h1⟩
    · omega
    · rw [cost_no (fun hr => h1 hr.1)]
  obtain ⟨h2, rfl⟩ := h2
  have hE : ∀ s ∈ p, okE D s := by
    rcases h with ⟨-, h1⟩ | ⟨h1, -⟩
    · exact h1
    · exact absurd h1 hv
  clear h hv
  refine ⟨fun hv => ?_, fun hv => ⟨?_, rfl⟩⟩
  case refine_2 =>
    rcases h2 with ⟨h1, -⟩ | ⟨-, h1⟩
    · omega
    · rw [cost_no (fun hr => h1 hr.2.1)]
  have hM : metAll D p := by
    rcases h2 with ⟨-, h1⟩ | ⟨h1, -⟩
    · exact h1
    · exact absurd h1 hv
  clear h2 hv
  -- the sums so far, and the pairs so far
  have hbw : ∀ a b, a < dm D → b < dm D → -198 ≤ bw D y p a b ∧ bw D y p a b ≤ 7128 := fun a b ha hb => by
    have h1 := ld_bd hw hy ha hb
    have h2 := ld_bd hw hy hb ha
    have h3 := wy_bd hw hl hs ha hb
    exact mul_bd (by omega) (by omega) h3.1 h3.2
  have hin : ∀ a j, a < dm D → a + 1 + j ≤ dm D → -990 ≤ sumF (fun j => bw D y p a (a + 1 + j)) j ∧ sumF (fun j => bw D y p a (a + 1 + j)) j ≤ 35640 := fun a j ha hj => by
    have h1 := sumF_bd2 (f := fun j => bw D y p a (a + 1 + j)) (c := 7128) (d := 198) (n := j) (fun i hi => hbw a (a + 1 + i) ha (by omega))
    omega
  have hout : ∀ a, a ≤ dm D → -4950 ≤ sumF (fun a => sumF (fun j => bw D y p a (a + 1 + j)) (dm D - 1 - a)) a ∧ sumF (fun a => sumF (fun j => bw D y p a (a + 1 + j)) (dm D - 1 - a)) a ≤ 178200 := fun a ha => by
    have h1 := sumF_bd2 (f := fun a => sumF (fun j => bw D y p a (a + 1 + j)) (dm D - 1 - a)) (c := 35640) (d := 990) (n := a) (fun i hi => hin i (dm D - 1 - i) (by omega) (by omega))
    omega
  have outer : ∀ (d a : Nat), a + d = dm D → (∀ a' b, a' < a → a' < b → b < dm D → 0 < ld D y a' b + ld D y b a' → wy D p a' b ≠ -1) → GO none mX3_costOf 23 [some (.inr 27), some (.inl (y : Int)), some (.inr k), some (.inl (sumF (fun a => sumF (fun j => bw D y p a (a + 1 + j)) (dm D - 1 - a)) a)), some (.inl (a : Int)), none, none, none] [] σ2 (fun v σ1 => v = cost D y p ∧ σ1 = σ2) := by
    intro d
    induction d with
    | zero =>
      intro a hd ho
      refine rX3_costOf_23 hk ⟨fun h => ⟨?_, rfl⟩, fun h => by omega⟩
      have ea : a = dm D := by omega
      subst ea
      rw [cost_yes, csum_tri hw hl hs]
      · rfl
      · refine ⟨hE, hM, fun a b ha hb h0 => ?_⟩
        have l1 := ld_bd hw hy ha hb
        have l2 := ld_bd hw hy hb ha
        rcases Nat.lt_trichotomy a b with h1 | h1 | h1
        · exact ho a b ha h1 hb (by omega)
        · rw [h1, wy_self hw hl hs hb]; decide
        · rw [wy_sym hw hl hs ha hb]
          exact ho b a hb h1 ha (by omega)
    | succ d ih =>
      intro a hd ho
      refine rX3_costOf_23 hk ⟨fun h => by omega, fun h => ⟨by omega, ?_⟩⟩
      have inner : ∀ (d2 j : Nat), a + 1 + j + d2 = dm D → (∀ b, a < b → b < a + 1 + j → 0 < ld D y a b + ld D y b a → wy D p a b ≠ -1) → GO none mX3_costOf 38 [some (.inr 27), some (.inl (y : Int)), some (.inr k), some (.inl (sumF (fun a => sumF (fun j => bw D y p a (a + 1 + j)) (dm D - 1 - a)) a + sumF (fun j => bw D y p a (a + 1 + j)) j)), some (.inl (a : Int)), some (.inl ((a + 1 + j : Nat) : Int)), none, none] [] σ2 (fun v σ1 => v = cost D y p ∧ σ1 = σ2) := by
        intro d2
        induction d2 with
        | zero =>
          intro j hd2 ho2
          refine rX3_costOf_38 hk ⟨fun h => ⟨by omega, ?_⟩, fun h => by omega⟩
          have := ih (a + 1) (by omega) (fun a' b h1 h2 h3 => by
            by_cases e : a' = a
            · subst e
              exact ho2 b h2 (by omega)
            · exact ho a' b (by omega) h2 h3)
          rw [sumF_succ, show dm D - 1 - a = j by omega] at this
          exact this
        | succ d2 ih2 =>
          intro j hd2 ho2
          have ha : a < dm D := by omega
          have hb : a + 1 + j < dm D := by omega
          have pa := hs _ (pg_mem (p := p) (i := a) (by omega))
          have pb := hs _ (pg_mem (p := p) (i := a + 1 + j) (by omega))
          have l1 := ld_bd hw hy ha hb
          have l2 := ld_bd hw hy hb ha
          have b1 := hbw a (a + 1 + j) ha hb
          have b2 := hin a j ha (by omega)
          have b3 := hout a (by omega)
          have e16 := hD.2.2.2.2.2.1
          have i1 : (25 * (y : Int) + 5 * (a : Int) + ((a + 1 + j : Nat) : Int)).toNat = 25 * y + 5 * a + (a + 1 + j) := by omega
          have i2 : (25 * (y : Int) + 5 * ((a + 1 + j : Nat) : Int) + (a : Int)).toNat = 25 * y + 5 * (a + 1 + j) + a := by omega
          have s1 : σ2 16 (25 * y + 5 * a + (a + 1 + j)) = ld D y a (a + 1 + j) := by rw [e16]; rfl
          have s2 : σ2 16 (25 * y + 5 * (a + 1 + j) + a) = ld D y (a + 1 + j) a := by rw [e16]; rfl
          have hnext : (0 < ld D y a (a + 1 + j) + ld D y (a + 1 + j) a → wy D p a (a + 1 + j) ≠ -1) → GO none mX3_costOf 38 [some (.inr 27), some (.inl (y : Int)), some (.inr k), some (.inl (sumF (fun a => sumF (fun j => bw D y p a (a + 1 + j)) (dm D - 1 - a)) a + sumF (fun j => bw D y p a (a + 1 + j)) j + bw D y p a (a + 1 + j))), some (.inl (a : Int)), some (.inl (((a + 1 + j : Nat) : Int) + 1)), none, none] [] σ2 (fun v σ1 => v = cost D y p ∧ σ1 = σ2) := fun hok => by
            have := ih2 (j + 1) (by omega) (fun b h1 h2 h3 => by
              by_cases e : b = a + 1 + j
              · subst e
                exact hok h3
              · exact ho2 b h1 (by omega) h3)
            rw [sumF_succ, ← Int.add_assoc] at this
            exact this
          refine rX3_costOf_38 hk ⟨fun h => by omega, fun h => ?_⟩
          rw [i1, i2, s1, s2, Int.toNat_natCast, Int.toNat_natCast, wy_cls hD hp hs (by omega) (by omega), hp.pg (i := a) (by omega), hp.pg (i := a + 1 + j) (by omega)]
          refine ⟨by omega, by omega, by omega, by omega, by omega, by omega, by omega, by omega, by omega, by omega, by omega, fun h0 => ⟨?_, ?_, by omega, hnext (fun h9 => by omega)⟩, fun h0 => ⟨fun h1 => ⟨?_, ?_, by omega, hnext (fun _ => h1)⟩, fun h1 => ⟨?_, rfl⟩⟩⟩
          · exact ⟨by unfold bw at b1; omega, by unfold bw at b1; omega⟩
          · exact ⟨by unfold bw at b1 b2 b3 ⊢; omega, by unfold bw at b1 b2 b3 ⊢; omega⟩
          · exact ⟨by unfold bw at b1; omega, by unfold bw at b1; omega⟩
          · exact ⟨by unfold bw at b1 b2 b3 ⊢; omega, by unfold bw at b1 b2 b3 ⊢; omega⟩
          · rw [cost_no]
            intro hr
            by_cases q : 0 < ld D y a (a + 1 + j)
            · exact hr.2.2 a (a + 1 + j) ha hb q h1
            · refine hr.2.2 (a + 1 + j) a hb ha (by omega) ?_
              rw [wy_sym hw hl hs hb ha]
              exact h1
      have := inner (dm D - (a + 1)) 0 (by omega) (fun b h1 h2 => by omega)
      rw [show sumF (fun j => bw D y p a (a + 1 + j)) 0 = 0 from rfl, Int.add_zero] at this
      exact this
  exact outer (dm D) 0 (by omega) (fun a' b h1 => by omega)
