/-! ===== moves: the table tells the least costs; the least move's steps ===== -/
theorem wD {Z : Zt} (hZ : GZ Z) : ∀ a, a < dm (zD Z) → 1 ≤ dV (zD Z) a ∧ dV (zD Z) a ≤ 50 := fun a ha => by
  have h5 := hZ.m5
  exact ⟨hZ.wf.2.2.2.2.2.2.2.2.2.1 a ha, (hZ.wf.2.2.2.2.2.2.2.2.1 a (by omega)).2⟩
theorem lstF_C {w : Nat → Int} {n : Nat} {p q : List Nat} (h : p.length < n) : lstF w n p q = lstC w p q := by
  unfold lstF lstC
  rw [if_neg (by omega)]
theorem lstC_bd {w : Nat → Int} {p q : List Nat} (hwt : ∀ i, i < p.length → 0 ≤ w i ∧ w i ≤ 50) (h5 : p.length ≤ 5) : lstC w p q ≤ 500 := by
  have h := (lstF_bd (n := p.length + 1) (q := q) hwt h5).2
  rw [lstF_C (Nat.lt_succ_self _)] at h
  exact h
def w1 (_ : Nat) : Int := 1
def wM (D : Dt) : Nat → Int := w3 (dV D)
/-- all that is asked of places -/
def PQ (Z : Zt) (p : List Nat) : Prop := p.length = dm (zD Z) ∧ okP (dn (zD Z)) p
theorem PQ.l5 {Z : Zt} {p : List Nat} (hZ : GZ Z) (h : PQ Z p) : p.length ≤ 5 := by rw [h.1]; exact hZ.m5
theorem PQ.wd {Z : Zt} {p : List Nat} (hZ : GZ Z) (h : PQ Z p) : ∀ b, b < p.length → 1 ≤ dV (zD Z) b ∧ dV (zD Z) b ≤ 50 := fun b hb => wD hZ b (by rw [← h.1]; exact hb)
theorem PQ.set {Z : Zt} {p : List Nat} {a s : Nat} (h : PQ Z p) (hs : s < dn (zD Z)) (hm : s ∉ p) : PQ Z (p.set a s) := ⟨by rw [List.length_set]; exact h.1, set_ok h.2 hs hm⟩
/-- costs of a way to the aim as the table has them -/
theorem lstM {Z : Zt} {p q : List Nat} (hZ : GZ Z) (hp : PQ Z p) (hq : PQ Z q) : lstC (wM (zD Z)) p q = 1000 * lstC (dV (zD Z)) p q + lstC w1 p q ∧ 0 ≤ lstC w1 p q ∧ lstC w1 p q ≤ 7 ∧ lstC (dV (zD Z)) p q ≤ 500 ∧ (p ≠ q → 1 ≤ lstC (dV (zD Z)) p q ∧ 1 ≤ lstC w1 p q) := by
  have h5 := hp.l5 hZ
  have hl : q.length = p.length := by rw [hp.1, hq.1]
  have h1 := lstC_one hp.2.2 hq.2.2 hl h5
  refine ⟨lstC_lin _ hp.2.2 h5, h1.1, h1.2, lstC_bd (fun i hi => by have := hp.wd hZ i hi; omega) h5, fun hne => ⟨?_, ?_⟩⟩
  · exact lstC_pos hl hne hp.2.2 h5 hq.2.2 (fun b hb => (hp.wd hZ b hb).1)
  · exact lstC_pos hl hne hp.2.2 h5 hq.2.2 (fun b hb => Int.le_refl _)
def FX (Z : Zt) (q : List Nat) (F : Nat → Int) : Prop := (∃ L, TI (zD Z) q F L) ∧ ∀ t, t < 6 ^ dm (zD Z) → okP (dn (zD Z)) (dig (dm (zD Z)) t) → ∀ a s, a < dm (zD Z) → s < dn (zD Z) → F t ≤ wstV (zD Z) F (dig (dm (zD Z)) t) a s
theorem nm_in {Z : Zt} {p : List Nat} (hZ : GZ Z) (hp : PQ Z p) : nm p < 6 ^ dm (zD Z) ∧ dig (dm (zD Z)) (nm p) = p := by
  have h6 := okP.s6 hZ hp.2
  have h := nm_lt p h6
  rw [hp.1] at h
  exact ⟨h, dig_nm _ p hp.1 h6⟩
theorem tab_le {Z : Zt} {q : List Nat} {F : Nat → Int} (hZ : GZ Z) (hq : PQ Z q) (hF : FX Z q F) (hn : dm (zD Z) < dn (zD Z)) : ∀ (k : Nat) (p : List Nat), PQ Z p → lstC w1 p q ≤ (k : Int) → F (nm p) ≤ lstC (wM (zD Z)) p q := by
  obtain ⟨⟨L, hT⟩, hfix⟩ := hF
  intro k
  induction k with
  | zero =>
    intro p hp hk
    have h := lstM hZ hp hq
    by_cases e : p = q
    · rw [e, lstC_self, hT.2.2.1]; exact Int.le_refl _
    · have := h.2.2.2.2 e
      omega
  | succ k ih =>
    intro p hp hk
    have h := lstM hZ hp hq
    have h5 := hp.l5 hZ
    have hl : q.length = p.length := by rw [hp.1, hq.1]
    by_cases e : p = q
    · rw [e, lstC_self, hT.2.2.1]; exact Int.le_refl _
    · obtain ⟨a, s, ha, hs, hm, hat⟩ := attain (w := wM (zD Z)) hp.2 hq.2 hl h5 (by rw [hp.1]; exact hn) e
      have hp' := hp.set (a := a) hs hm
      have hw3 : ∀ b, b < p.length → 1 ≤ wM (zD Z) b := fun b hb => by
        have := hp.wd hZ b hb
        show 1 ≤ 1000 * dV (zD Z) b + 1
        omega
      have h1 : lstC w1 (p.set a s) q = lstC w1 p q - 1 := step_one hp.2.2 hq.2.2 hl h5 ha hm hw3 hat
      have hih := ih (p.set a s) hp' (by omega)
      have h' := lstM hZ hp' hq
      have hn1 := nm_in hZ hp
      have hf := hfix (nm p) hn1.1 (by rw [hn1.2]; exact hp.2) a s (by rw [← hp.1]; exact ha) hs
      rw [hn1.2] at hf
      unfold wstV at hf
      rw [if_neg hm, if_neg (by omega)] at hf
      have e1 : wOf (zD Z) a = wM (zD Z) a := rfl
      omega
theorem tab_ge {Z : Zt} {q : List Nat} (hZ : GZ Z) (hq : PQ Z q) : ∀ (k : Nat) (p : List Nat) (c : Int), PQ Z p → ptc (zD Z) q k p c → lstC (wM (zD Z)) p q ≤ c
  | 0, p, c, hp, h => by
    obtain ⟨rfl, rfl⟩ := h
    rw [lstC_self]
    exact Int.le_refl _
  | k + 1, p, c, hp, h => by
    obtain ⟨a, s, ha, hs, hm, h⟩ := h
    have ih := tab_ge hZ hq k _ _ (hp.set hs hm) h
    have hl : q.length = p.length := by rw [hp.1, hq.1]
    have := step_le (w := wM (zD Z)) hp.2.2 hq.2.2 hl (hp.l5 hZ) (a := a) (s := s) (by rw [hp.1]; exact ha) hm (fun b hb => by
      have := hp.wd hZ b hb
      show 0 ≤ 1000 * dV (zD Z) b + 1
      omega)
    have e1 : wOf (zD Z) a = wM (zD Z) a := rfl
    omega
theorem full_in {Z : Zt} {p : List Nat} (hp : PQ Z p) (hn : dn (zD Z) ≤ dm (zD Z)) {s : Nat} (hs : s < dn (zD Z)) : s ∈ p := by
  refine Classical.byContradiction (fun z => ?_)
  have h := List.Nodup.length_le_of_subset (List.nodup_cons.mpr ⟨z, hp.2.2⟩) (l₂ := List.range (dn (zD Z))) (fun x hx => by
    rcases List.mem_cons.mp hx with rfl | hx
    · exact List.mem_range.mpr hs
    · exact List.mem_range.mpr (hp.2.1 x hx))
  rw [List.length_range, List.length_cons, hp.1] at h
  omega
/-- what the table tells -/
theorem tab_val {Z : Zt} {p q : List Nat} {F : Nat → Int} (hZ : GZ Z) (hp : PQ Z p) (hq : PQ Z q) (hF : FX Z q F) : (dm (zD Z) < dn (zD Z) → F (nm p) = lstC (wM (zD Z)) p q) ∧ (dn (zD Z) ≤ dm (zD Z) → (p = q → F (nm p) = 0) ∧ (p ≠ q → F (nm p) = 100000000)) := by
  have h := lstM hZ hp hq
  have hn1 := nm_in hZ hp
  refine ⟨fun hn => ?_, fun hn => ⟨fun e => ?_, fun e => Classical.byContradiction (fun z => ?_)⟩⟩
  · have h1 := tab_le hZ hq hF hn 7 p hp h.2.2.1
    obtain ⟨⟨L, hT⟩, -⟩ := hF
    obtain ⟨-, -, k, hk⟩ := hT.2.2.2.1 (nm p) hn1.1 (by omega)
    rw [hn1.2] at hk
    have := tab_ge hZ hq k p _ hp hk
    omega
  · obtain ⟨⟨L, hT⟩, -⟩ := hF
    rw [e]; exact hT.2.2.1
  · obtain ⟨⟨L, hT⟩, -⟩ := hF
    obtain ⟨-, -, k, hk⟩ := hT.2.2.2.1 (nm p) hn1.1 z
    rw [hn1.2] at hk
    cases k with
    | zero => exact e hk.1
    | succ k =>
      obtain ⟨a, s, -, hs, hm, -⟩ := hk
      exact hm (full_in hp hn hs)
theorem tab_move {Z : Zt} {p q : List Nat} {F : Nat → Int} (hZ : GZ Z) (hp : PQ Z p) (hq : PQ Z q) (hF : FX Z q F) : (F (nm p) = 100000000 → lstF (dV (zD Z)) (dn (zD Z)) p q = -1) ∧ (F (nm p) ≠ 100000000 → Int.tdiv (F (nm p)) 1000 = lstF (dV (zD Z)) (dn (zD Z)) p q) ∧ (F (nm p) = 0 ↔ p = q) ∧ 0 ≤ F (nm p) := by
  have h := lstM hZ hp hq
  have hv := tab_val hZ hp hq hF
  by_cases hn : dm (zD Z) < dn (zD Z)
  · have e := hv.1 hn
    rw [lstF_C (by rw [hp.1]; exact hn), e]
    by_cases z : p = q
    · rw [z, lstC_self, lstC_self]
      exact ⟨fun y => by omega, fun _ => rfl, ⟨fun _ => rfl, fun _ => rfl⟩, Int.le_refl _⟩
    · have h2 := h.2.2.2.2 z
      refine ⟨fun y => by omega, fun _ => ?_, ⟨fun y => by omega, fun y => absurd y z⟩, by omega⟩
      rw [Int.tdiv_eq_ediv_of_nonneg (by omega)]
      omega
  · have e := hv.2 (by omega)
    by_cases z : p = q
    · have e1 := e.1 z
      rw [e1]
      refine ⟨fun y => by omega, fun _ => ?_, ⟨fun _ => z, fun _ => rfl⟩, Int.le_refl _⟩
      rw [z]
      unfold lstF
      have h1 : mvL (dV (zD Z)) q q = 0 := sumF_zero (fun i hi => by rw [if_pos rfl])
      rw [if_neg (by omega)]
      have h2 := lstC_self (dV (zD Z)) q
      unfold lstC at h2
      rw [h2]
      rfl
    · have e1 := e.2 z
      rw [e1]
      refine ⟨fun _ => ?_, fun y => absurd rfl y, ⟨fun y => by omega, fun y => absurd y z⟩, by omega⟩
      unfold lstF
      have hl : q.length = p.length := by rw [hp.1, hq.1]
      have hpos : 0 < mvL (dV (zD Z)) p q := by
        obtain ⟨b, hb, hbe⟩ : ∃ b, b < p.length ∧ pg p b ≠ pg q b := Classical.byContradiction (fun y => z (pg_ext hl (fun b hb => Classical.byContradiction (fun x => y ⟨b, hb, x⟩))))
        have : ∀ n, n ≤ p.length → 0 ≤ sumF (fun i => if pg p i = pg q i then 0 else dV (zD Z) i) n ∧ (b < n → 0 < sumF (fun i => if pg p i = pg q i then 0 else dV (zD Z) i) n) := by
          intro n
          induction n with
          | zero => intro _; exact ⟨Int.le_refl _, fun h => by omega⟩
          | succ n ih =>
            intro hn
            have := ih (by omega)
            have hw := hp.wd hZ n (by omega)
            rw [sumF_succ]
            have h0 : 0 ≤ (if pg p n = pg q n then 0 else dV (zD Z) n) := by split <;> omega
            refine ⟨by omega, fun hb => ?_⟩
            by_cases y : b = n
            · have h1 : (if pg p n = pg q n then 0 else dV (zD Z) n) = dV (zD Z) n := if_neg (by rw [← y]; exact hbe)
              omega
            · have := this.2 (by omega)
              omega
        exact (this p.length (Nat.le_refl _)).2 hb
      rw [if_pos ⟨hpos, by rw [hp.1]; omega⟩]
/-- what a step of a least move is, in both -/
def stG (Z : Zt) (p q : List Nat) (a s : Nat) : Prop := s < dn (zD Z) ∧ s ∉ p ∧ lstF (dV (zD Z)) (dn (zD Z)) (p.set a s) q = lstF (dV (zD Z)) (dn (zD Z)) p q - dV (zD Z) a
theorem step_iff {Z : Zt} {p q : List Nat} {F : Nat → Int} {a s : Nat} (hZ : GZ Z) (hp : PQ Z p) (hq : PQ Z q) (hF : FX Z q F) (hn : dm (zD Z) < dn (zD Z)) (ha : a < dm (zD Z)) (hs : s < 6) : wstV (zD Z) F p a s = F (nm p) ↔ stG Z p q a s := by
  have h := lstM hZ hp hq
  have hv := (tab_val hZ hp hq hF).1 hn
  have h5 := hp.l5 hZ
  have hl : q.length = p.length := by rw [hp.1, hq.1]
  have hw1 : ∀ b, b < p.length → 1 ≤ dV (zD Z) b := fun b hb => (hp.wd hZ b hb).1
  unfold wstV stG
  by_cases hm : s ∈ p
  · rw [if_pos hm]
    exact ⟨fun e => by omega, fun e => absurd hm e.2.1⟩
  · rw [if_neg hm]
    by_cases hsn : s < dn (zD Z)
    · have hp' := hp.set (a := a) hsn hm
      have hv' := (tab_val hZ hp' hq hF).1 hn
      have h' := lstM hZ hp' hq
      have e1 : wOf (zD Z) a = 1000 * dV (zD Z) a + 1 := rfl
      rw [if_neg (by omega), lstF_C (by rw [hp'.1]; exact hn), lstF_C (by rw [hp.1]; exact hn)]
      refine ⟨fun e => ⟨hsn, hm, by omega⟩, fun ⟨_, _, e⟩ => ?_⟩
      have h1 : lstC w1 (p.set a s) q = lstC w1 p q - 1 := step_one hp.2.2 hq.2.2 hl h5 (by rw [hp.1]; exact ha) hm hw1 e
      omega
    · have hno : F (nm (p.set a s)) = 100000000 := by
        obtain ⟨⟨L, hT⟩, -⟩ := hF
        have h6 := set_s6 (a := a) (okP.s6 hZ hp.2) hs
        have hll : (p.set a s).length = dm (zD Z) := by rw [List.length_set]; exact hp.1
        have hlt := nm_lt _ h6
        rw [hll] at hlt
        refine hT.2.1 _ hlt (fun z => ?_)
        rw [dig_nm _ _ hll h6] at z
        have hmem : s ∈ p.set a s := by
          have h1 := pg_mem (p := p.set a s) (i := a) (by rw [hll]; exact ha)
          rw [pg_set (by rw [hp.1]; exact ha), if_pos rfl] at h1
          exact h1
        exact hsn (z.1 s hmem)
      rw [if_pos hno]
      exact ⟨fun e => by omega, fun e => absurd e.1 hsn⟩
theorem step_some {Z : Zt} {p q : List Nat} (hZ : GZ Z) (hp : PQ Z p) (hq : PQ Z q) (hn : dm (zD Z) < dn (zD Z)) (hne : p ≠ q) : ∃ a s, a < dm (zD Z) ∧ s < 6 ∧ stG Z p q a s := by
  have h5 := hp.l5 hZ
  have hn6 := hZ.n6
  have hl : q.length = p.length := by rw [hp.1, hq.1]
  obtain ⟨a, s, ha, hs, hm, e⟩ := attain (w := dV (zD Z)) hp.2 hq.2 hl h5 (by rw [hp.1]; exact hn) hne
  refine ⟨a, s, by rw [← hp.1]; exact ha, by omega, hs, hm, ?_⟩
  rw [lstF_C (by rw [List.length_set, hp.1]; exact hn), lstF_C (by rw [hp.1]; exact hn)]
  exact e
theorem fsS_first {w : Nat → Int} {n : Nat} {p q : List Nat} {wh : Int} {a s0 : Nat} : ∀ (d s : Nat), s ≤ s0 → s0 < s + d → (∀ s', s ≤ s' → s' < s0 → ¬ (s' ∉ p ∧ lstF w n (p.set a s') q = wh - w a)) → (s0 ∉ p ∧ lstF w n (p.set a s0) q = wh - w a) → fsS w n p q wh a s d = some (a, s0)
  | 0, s, h1, h2, _, _ => by omega
  | d + 1, s, h1, h2, h3, h4 => by
    unfold fsS
    by_cases e : s = s0
    · rw [e, if_pos h4]
    · rw [if_neg (h3 s (Nat.le_refl _) (by omega))]
      exact fsS_first d (s + 1) (by omega) (by omega) (fun s' hs hs' => h3 s' (by omega) hs') h4
theorem fsS_none {w : Nat → Int} {n : Nat} {p q : List Nat} {wh : Int} {a : Nat} : ∀ (d s : Nat), (∀ s', s ≤ s' → s' < s + d → ¬ (s' ∉ p ∧ lstF w n (p.set a s') q = wh - w a)) → fsS w n p q wh a s d = none
  | 0, s, _ => rfl
  | d + 1, s, h => by
    unfold fsS
    rw [if_neg (h s (Nat.le_refl _) (by omega))]
    exact fsS_none d (s + 1) (fun s' hs hs' => h s' (by omega) (by omega))
theorem fsA_first {w : Nat → Int} {n : Nat} {p q : List Nat} {wh : Int} {a0 s0 : Nat} : ∀ (d a : Nat), a ≤ a0 → a0 < a + d → (∀ a' s', a ≤ a' → a' < a0 → s' < n → ¬ (s' ∉ p ∧ lstF w n (p.set a' s') q = wh - w a')) → fsS w n p q wh a0 0 n = some (a0, s0) → fsA w n p q wh a d = some (a0, s0)
  | 0, a, h1, h2, _, _ => by omega
  | d + 1, a, h1, h2, h3, h4 => by
    unfold fsA
    by_cases e : a = a0
    · rw [e, h4]
    · rw [fsS_none n 0 (fun s' _ hs' => h3 a s' (Nat.le_refl _) (by omega) (by omega))]
      exact fsA_first d (a + 1) (by omega) (by omega) (fun a' s' ha ha' => h3 a' s' (by omega) ha') h4
/-- the class takes the first such step -/
theorem fst_first {Z : Zt} {p q : List Nat} {a s : Nat} (hZ : GZ Z) (hp : PQ Z p) (hq : PQ Z q) (hn : dm (zD Z) < dn (zD Z)) (hne : p ≠ q) (ha : a < dm (zD Z)) (h : stG Z p q a s) (hb : ∀ a' s', a' < dm (zD Z) → s' < 6 → 6 * a' + s' < 6 * a + s → ¬ stG Z p q a' s') : fstF (dV (zD Z)) (dn (zD Z)) p q = some (a, s) := by
  have hn6 := hZ.n6
  have hsn := h.1
  unfold fstF
  have h1 := (lstM hZ hp hq).2.2.2.2 hne
  rw [if_neg (by rw [lstF_C (by rw [hp.1]; exact hn)]; omega)]
  refine fsA_first _ 0 (Nat.zero_le _) (by rw [hp.1]; omega) (fun a' s' _ ha' hs' hc => hb a' s' (by omega) (by omega) (by omega) ⟨hs', hc.1, hc.2⟩) (fsS_first _ 0 (Nat.zero_le _) (by omega) (fun s' _ hs' hc => hb a s' ha (by omega) (by omega) ⟨by omega, hc.1, hc.2⟩) ⟨h.2.1, h.2.2⟩)
theorem fst_none {Z : Zt} {p q : List Nat} {F : Nat → Int} (hZ : GZ Z) (hp : PQ Z p) (hq : PQ Z q) (hF : FX Z q F) (h : F (nm p) = 0 ∨ F (nm p) = 100000000) : fstF (dV (zD Z)) (dn (zD Z)) p q = none := by
  have ht := tab_move hZ hp hq hF
  unfold fstF
  rw [if_pos]
  rcases h with h | h
  · have h1 := ht.2.1 (by omega)
    rw [h] at h1
    have : (0 : Int).tdiv 1000 = 0 := rfl
    omega
  · have := ht.1 h
    omega
theorem wkF_none {w : Nat → Int} {n : Nat} {p q : List Nat} (h : fstF w n p q = none) : ∀ i, wkF w n q i p = -1
  | 0 => by unfold wkF; rw [h]
  | i + 1 => by unfold wkF; rw [h]
/-- a step of the least move is one step less to go -/
theorem one_less {Z : Zt} {p q : List Nat} {a s : Nat} (hZ : GZ Z) (hp : PQ Z p) (hq : PQ Z q) (hn : dm (zD Z) < dn (zD Z)) (ha : a < dm (zD Z)) (h : stG Z p q a s) : PQ Z (p.set a s) ∧ lstC w1 (p.set a s) q = lstC w1 p q - 1 := by
  have hl : q.length = p.length := by rw [hp.1, hq.1]
  have e := h.2.2
  rw [lstF_C (by rw [List.length_set, hp.1]; exact hn), lstF_C (by rw [hp.1]; exact hn)] at e
  exact ⟨hp.set h.1 h.2.1, step_one hp.2.2 hq.2.2 hl (hp.l5 hZ) (by rw [hp.1]; exact ha) h.2.1 (fun b hb => (hp.wd hZ b hb).1) e⟩
/-- behind so many steps there is none -/
theorem wk_end {Z : Zt} {q : List Nat} (hZ : GZ Z) (hq : PQ Z q) : ∀ (i : Nat) (p : List Nat), PQ Z p → lstC w1 p q ≤ (i : Int) → wkF (dV (zD Z)) (dn (zD Z)) q i p = -1 := by
  intro i
  induction i with
  | zero =>
    intro p hp hi
    have h := lstM hZ hp hq
    have e : p = q := Classical.byContradiction (fun z => by have := h.2.2.2.2 z; omega)
    refine wkF_none ?_ 0
    unfold fstF
    rw [if_pos]
    rw [e]
    unfold lstF
    split
    · omega
    · have := lstC_self (dV (zD Z)) q
      unfold lstC at this
      omega
  | succ i ih =>
    intro p hp hi
    unfold wkF
    cases e : fstF (dV (zD Z)) (dn (zD Z)) p q with
    | none => rfl
    | some r =>
      have hr := fstF_ok e
      have hn : dm (zD Z) < dn (zD Z) := Classical.byContradiction (fun z => hr.2.2 (full_in hp (by omega) hr.2.1))
      have hst : stG Z p q r.1 r.2 := by
        unfold fstF at e
        split at e
        · cases e
        · have := fsA_ok e
          exact ⟨this.2.2.1, this.2.2.2.1, this.2.2.2.2⟩
      have h1 := one_less hZ hp hq hn (by rw [← hp.1]; exact hr.1) hst
      exact ih _ h1.1 (by omega)
theorem wk_seven {Z : Zt} {p q : List Nat} {i : Int} (hZ : GZ Z) (hp : PQ Z p) (hq : PQ Z q) : (if 7 ≤ i then (-1 : Int) else wkF (dV (zD Z)) (dn (zD Z)) q i.toNat p) = wkF (dV (zD Z)) (dn (zD Z)) q i.toNat p := by
  split
  · have h := lstM hZ hp hq
    exact (wk_end hZ hq i.toNat p hp (by omega)).symm
  · rfl
