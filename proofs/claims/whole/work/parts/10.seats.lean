/-! ===== places in memory, as rows of slots ===== -/
def setA (σ : Mem) (k : Nat) (f : Nat → Int) : Mem := fun a => if a = k then f else σ a
def fup (f : Nat → Int) (i : Nat) (v : Int) : Nat → Int := fun j => if j = i then v else f j
theorem mu_setA (σ : Mem) (k j : Nat) (v : Int) : mu σ k j v = setA σ k (fup (σ k) j v) := by
  funext a b
  unfold mu setA fup
  by_cases h : a = k
  · subst h
    by_cases h2 : b = j <;> simp [h2]
  · simp [h]
theorem setA_eq {σ : Mem} {k : Nat} {f : Nat → Int} : setA σ k f k = f := by simp [setA]
theorem setA_ne {σ : Mem} {k a : Nat} {f : Nat → Int} (h : a ≠ k) : setA σ k f a = σ a := by simp [setA, h]
theorem setA_self {σ : Mem} {k : Nat} : setA σ k (σ k) = σ := by
  funext a
  by_cases h : a = k
  · rw [h, setA_eq]
  · rw [setA_ne h]
theorem setA_twice {σ : Mem} {k : Nat} {f g : Nat → Int} : setA (setA σ k f) k g = setA σ k g := by
  funext a
  by_cases h : a = k
  · rw [h, setA_eq, setA_eq]
  · rw [setA_ne h, setA_ne h, setA_ne h]
theorem mu_nef {σ : Mem} {k j a : Nat} {v : Int} (h : a ≠ k) : mu σ k j v a = σ a := by
  funext b
  exact mu_ne a h b
theorem mu_at (σ : Mem) (k j : Nat) (v : Int) (b : Nat) : mu σ k j v k b = if b = j then v else σ k b := by
  unfold mu
  by_cases h : b = j <;> simp [h]
theorem mu_atn {σ : Mem} {k j : Nat} {v : Int} {b : Nat} (h : b ≠ j) : mu σ k j v k b = σ k b := by
  rw [mu_at, if_neg h]
theorem ite_no {c : Prop} [Decidable c] (h : (if c then (1 : Int) else 0) = 0) : ¬ c := fun q => by rw [if_pos q] at h; omega
theorem ite_yes {c : Prop} [Decidable c] (h : (if c then (1 : Int) else 0) ≠ 0) : c := Classical.byContradiction (fun q => h (if_neg q))
theorem s_at {k : Nat} (h : isSeats k) : k ≠ k + 2 := by omega
/-- the cells outside S stay -/
def Same (S : List Nat) (σ σ1 : Mem) : Prop := ∀ a, a ∉ S → σ1 a = σ a
theorem Same.rf {S : List Nat} {σ : Mem} : Same S σ σ := fun _ _ => rfl
theorem Same.tr {S : List Nat} {σ σ1 σ2 : Mem} (h : Same S σ σ1) (h2 : Same S σ1 σ2) : Same S σ σ2 := fun a ha => (h2 a ha).trans (h a ha)
theorem Same.wk {S S' : List Nat} {σ σ1 : Mem} (h : Same S σ σ1) (hs : ∀ a ∈ S, a ∈ S') : Same S' σ σ1 := fun a ha => h a (fun q => ha (hs a q))
theorem Same.mu {S : List Nat} {σ : Mem} {k j : Nat} {v : Int} (hk : k ∈ S) : Same S σ (mu σ k j v) := fun a ha => mu_nef (fun q => ha (q ▸ hk))
theorem Same.setA {S : List Nat} {σ : Mem} {k : Nat} {f : Nat → Int} (hk : k ∈ S) : Same S σ (setA σ k f) := fun a ha => setA_ne (fun q => ha (q ▸ hk))
/-- the row a begins with p -/
def hld (σ : Mem) (a : Nat) (p : List Nat) : Prop := ∀ (i : Nat) (h : i < p.length), σ a i = (p[i] : Int)
theorem hld_nil {σ : Mem} {a : Nat} : hld σ a [] := fun i h => by simp at h
theorem hld.take {σ : Mem} {a : Nat} {p : List Nat} (h : hld σ a p) (t : Nat) : hld σ a (p.take t) := by
  intro i hi
  rw [List.length_take] at hi
  rw [List.getElem_take]
  exact h i (by omega)
theorem hld.snoc {σ : Mem} {a : Nat} {p : List Nat} (h : hld σ a p) (s : Nat) : hld (mu σ a p.length (s : Int)) a (p ++ [s]) := by
  intro i hi
  rw [List.length_append, List.length_singleton] at hi
  by_cases e : i = p.length
  · subst e
    rw [mu_at, if_pos rfl]
    simp
  · rw [mu_at, if_neg e, List.getElem_append_left (by omega)]
    exact h i (by omega)
theorem hld.cong {σ σ1 : Mem} {a b : Nat} {p : List Nat} (h : hld σ a p) (e : σ1 b = σ a) : hld σ1 b p := fun i hi => by rw [e]; exact h i hi
theorem hld_un {σ : Mem} {a : Nat} {p q : List Nat} (h : hld σ a p) (h2 : hld σ a q) (hl : p.length = q.length) : p = q := by
  apply List.ext_getElem hl
  intro i h3 h4
  have := (h i h3).symm.trans (h2 i h4)
  omega
set_option maxRecDepth 100000 in
theorem rX8_shops_0 {k0 : Nat} (hk0 : isSeats k0) {σ : Mem} {Q : Int → Mem → Prop} (h : Q (σ k0 1) σ) : CM mX8_shops [.inr k0] σ Q := by
  refine CM_of_GO (by decide +kernel) rfl (Nat.le_of_ble_eq_true rfl) ?_
  show GO none mX8_shops 0 [some (.inr k0)] [] σ Q
  refine g_aload_n dX8_shops_0 rfl rfl ?_
  refine g_getI flX8_20 hk0.1 hk0.2.1 (by decide) hk0.2.2.2.1 dX8_shops_1 ?_
  exact g_ireturn rfl dX8_shops_4 h
set_option maxRecDepth 100000 in
theorem rX8_at_0 {x1 : Int} {k0 : Nat} (hk0 : isSeats k0) {σ : Mem} {Q : Int → Mem → Prop} (h : ((0 ≤ x1) ∧ (((x1 < 5) ∧ (Q (σ (k0 + 2) (x1).toNat) σ))))) : CM mX8_at [.inr k0, .inl x1] σ Q := by
  refine CM_of_GO (by decide +kernel) rfl (Nat.le_of_ble_eq_true rfl) ?_
  show GO none mX8_at 0 [some (.inr k0), some (.inl x1)] [] σ Q
  refine g_aload_n dX8_at_0 rfl rfl ?_
  refine g_getR (r' := (k0 + 1)) flX8_14 hk0.1 hk0.2.1 (by decide) hk0.2.2.1 dX8_at_1 ?_
  refine g_iload_n dX8_at_4 rfl rfl ?_
  obtain ⟨p1, h⟩ := h
  obtain ⟨p2, h⟩ := h
  refine g_invVI (as := [.inl x1]) (rest := []) okX7_get mlX8_24 hk0.2.2.2.2.1 hk0.2.2.2.2.2.2.1 ⟨_, _, rfl⟩ rfl ⟨Nat.le_of_ble_eq_true rfl, Nat.le_of_ble_eq_true rfl⟩ (Nat.le_of_ble_eq_true rfl) rfl dX8_at_5 (c_X7_get hk0.2.2.2.2 p1 p2) (Or.inl rfl) (fun v3 σ4 e5 => ?_)
  obtain ⟨e5a, e5b⟩ := e5; subst v3; subst σ4
  exact g_ireturn rfl dX8_at_8 h
set_option maxRecDepth 100000 in
theorem rX8_seat_0 {x1 x2 : Int} {k0 : Nat} (hk0 : isSeats k0) {σ : Mem} {Q : Int → Mem → Prop} (h : ((0 ≤ x1) ∧ (((x1 < 5) ∧ (Q 0 (mu σ (k0 + 2) (x1).toNat x2)))))) : CM mX8_seat [.inr k0, .inl x1, .inl x2] σ Q := by
  refine CM_of_GO (by decide +kernel) rfl (Nat.le_of_ble_eq_true rfl) ?_
  show GO none mX8_seat 0 [some (.inr k0), some (.inl x1), some (.inl x2)] [] σ Q
  refine g_aload_n dX8_seat_0 rfl rfl ?_
  refine g_getR (r' := (k0 + 1)) flX8_14 hk0.1 hk0.2.1 (by decide) hk0.2.2.1 dX8_seat_1 ?_
  refine g_iload_n dX8_seat_4 rfl rfl ?_
  refine g_iload_n dX8_seat_5 rfl rfl ?_
  obtain ⟨p1, h⟩ := h
  obtain ⟨p2, h⟩ := h
  refine g_invVV (as := [.inl x1, .inl x2]) (rest := []) okX7_set mlX8_28 hk0.2.2.2.2.1 hk0.2.2.2.2.2.2.1 ⟨_, _, rfl⟩ rfl ⟨Nat.le_of_ble_eq_true rfl, Nat.le_of_ble_eq_true rfl⟩ (Nat.le_of_ble_eq_true rfl) rfl dX8_seat_6 (c_X7_set hk0.2.2.2.2 p1 p2) rfl (fun σ4 e5 => ?_)
  subst σ4
  exact g_return rfl dX8_seat_9 h
theorem c_X8_shops {k : Nat} {σ : Mem} (hk : isSeats k) : CM mX8_shops [.inr k] σ (fun v σ1 => v = σ k 1 ∧ σ1 = σ) := rX8_shops_0 hk ⟨rfl, rfl⟩
theorem c_X8_at {k : Nat} {i : Int} {σ : Mem} (hk : isSeats k) (h0 : 0 ≤ i) (h5 : i < 5) : CM mX8_at [.inr k, .inl i] σ (fun v σ1 => v = σ (k + 2) i.toNat ∧ σ1 = σ) := rX8_at_0 hk ⟨h0, h5, rfl, rfl⟩
theorem c_X8_seat {k : Nat} {i s : Int} {σ : Mem} (hk : isSeats k) (h0 : 0 ≤ i) (h5 : i < 5) : CM mX8_seat [.inr k, .inl i, .inl s] σ (fun _ σ1 => σ1 = mu σ (k + 2) i.toNat s) := rX8_seat_0 hk ⟨h0, h5, rfl⟩
/-- the first place from i on, of d places, that holds s; -1 -/
def whoF (f : Nat → Int) (s : Int) : Nat → Nat → Int
  | _, 0 => -1
  | i, d + 1 => if f i = s then (i : Int) else whoF f s (i + 1) d
theorem whoF_spec (f : Nat → Int) (s : Int) : ∀ d i, (whoF f s i d = -1 ∧ ∀ j, i ≤ j → j < i + d → f j ≠ s) ∨ (∃ j : Nat, whoF f s i d = (j : Int) ∧ i ≤ j ∧ j < i + d ∧ f j = s ∧ ∀ l, i ≤ l → l < j → f l ≠ s)
  | 0, i => Or.inl ⟨rfl, fun j h1 h2 => by omega⟩
  | d + 1, i => by
    unfold whoF
    by_cases h : f i = s
    · rw [if_pos h]
      exact Or.inr ⟨i, rfl, Nat.le_refl _, by omega, h, fun l h1 h2 => by omega⟩
    · rw [if_neg h]
      rcases whoF_spec f s d (i + 1) with ⟨h1, h2⟩ | ⟨j, h1, h2, h3, h4, h5⟩
      · refine Or.inl ⟨h1, fun j q1 q2 => ?_⟩
        by_cases e : j = i
        · rw [e]; exact h
        · exact h2 j (by omega) (by omega)
      · refine Or.inr ⟨j, h1, by omega, by omega, h4, fun l q1 q2 => ?_⟩
        by_cases e : l = i
        · rw [e]; exact h
        · exact h5 l (by omega) q2
set_option maxRecDepth 100000 in
theorem rX8_whoIsAt_0 {x1 x2 : Int} {k0 : Nat} (hk0 : isSeats k0) {σ : Mem} {Q : Int → Mem → Prop} (h : GO none mX8_whoIsAt 2 [some (.inr k0), some (.inl x1), some (.inl x2), some (.inl 0)] [] σ Q) : CM mX8_whoIsAt [.inr k0, .inl x1, .inl x2] σ Q := by
  refine CM_of_GO (by decide +kernel) rfl (Nat.le_of_ble_eq_true rfl) ?_
  show GO none mX8_whoIsAt 0 [some (.inr k0), some (.inl x1), some (.inl x2), none] [] σ Q
  refine g_iconst dX8_whoIsAt_0 (by decide) ?_
  refine g_istore_n (ls' := [some (.inr k0), some (.inl x1), some (.inl x2), some (.inl 0)]) dX8_whoIsAt_1 rfl (by decide) rfl ?_
  exact h
set_option maxRecDepth 100000 in
theorem rX8_whoIsAt_2 {x1 x2 x3 : Int} {k0 : Nat} (hk0 : isSeats k0) {σ : Mem} {Q : Int → Mem → Prop} (h : (x2 ≤ x3 → Q (-1) σ) ∧ (x3 < x2 → ((0 ≤ x3) ∧ (((x3 < 5) ∧ (((σ (k0 + 2) (x3).toNat) ≠ x1 → ((inR (x3 + 1)) ∧ (GO none mX8_whoIsAt 2 [some (.inr k0), some (.inl x1), some (.inl x2), some (.inl (x3 + 1))] [] σ Q))) ∧ ((σ (k0 + 2) (x3).toNat) = x1 → Q x3 σ))))))) : GO none mX8_whoIsAt 2 [some (.inr k0), some (.inl x1), some (.inl x2), some (.inl x3)] [] σ Q := by
  refine g_iload_n dX8_whoIsAt_2 rfl rfl ?_
  refine g_iload_n dX8_whoIsAt_3 rfl rfl ?_
  refine g_icmp_ge (tgt := 27) dX8_whoIsAt_4 (by decide) (fun c1 => ?_) (fun c1 => ?_)
  · have h := h.1 c1
    refine g_iconst dX8_whoIsAt_27 (by decide) ?_
    exact g_ireturn rfl dX8_whoIsAt_28 h
  · have h := h.2 c1
    refine g_aload_n dX8_whoIsAt_7 rfl rfl ?_
    refine g_getR (r' := (k0 + 1)) flX8_14 hk0.1 hk0.2.1 (by decide) hk0.2.2.1 dX8_whoIsAt_8 ?_
    refine g_iload_n dX8_whoIsAt_11 rfl rfl ?_
    obtain ⟨p2, h⟩ := h
    obtain ⟨p3, h⟩ := h
    refine g_invVI (as := [.inl x3]) (rest := []) okX7_get mlX8_24 hk0.2.2.2.2.1 hk0.2.2.2.2.2.2.1 ⟨_, _, rfl⟩ rfl ⟨Nat.le_of_ble_eq_true rfl, Nat.le_of_ble_eq_true rfl⟩ (Nat.le_of_ble_eq_true rfl) rfl dX8_whoIsAt_12 (c_X7_get hk0.2.2.2.2 p2 p3) (Or.inl rfl) (fun v4 σ5 e6 => ?_)
    obtain ⟨e6a, e6b⟩ := e6; subst v4; subst σ5
    refine g_iload_n dX8_whoIsAt_15 rfl rfl ?_
    refine g_icmp_ne (tgt := 21) dX8_whoIsAt_16 (by decide) (fun c7 => ?_) (fun c7 => ?_)
    · have h := h.1 c7
      obtain ⟨p8, h⟩ := h
      refine g_iinc (ls' := [some (.inr k0), some (.inl x1), some (.inl x2), some (.inl (x3 + 1))]) dX8_whoIsAt_21 (by decide) rfl p8 rfl ?_
      refine g_goto (tgt := 2) dX8_whoIsAt_24 (by decide) ?_
      exact h
    · have h := h.2 c7
      refine g_iload_n dX8_whoIsAt_19 rfl rfl ?_
      exact g_ireturn rfl dX8_whoIsAt_20 h
theorem c_X8_whoIsAt {k : Nat} {s e : Int} {σ : Mem} (hk : isSeats k) (he : e ≤ 5) : CM mX8_whoIsAt [.inr k, .inl s, .inl e] σ (fun v σ1 => v = whoF (σ (k + 2)) s 0 e.toNat ∧ σ1 = σ) := by
  have key : ∀ (d i : Nat), (e.toNat = i + d ∨ (d = 0 ∧ e ≤ i)) → GO none mX8_whoIsAt 2 [some (.inr k), some (.inl s), some (.inl e), some (.inl (i : Int))] [] σ (fun v σ1 => v = whoF (σ (k + 2)) s i d ∧ σ1 = σ) := by
    intro d
    induction d with
    | zero =>
      intro i hi
      exact rX8_whoIsAt_2 hk ⟨fun h => ⟨rfl, rfl⟩, fun h => by omega⟩
    | succ d ih =>
      intro i hi
      refine rX8_whoIsAt_2 hk ⟨fun h => by omega, fun h => ⟨by omega, by omega, fun h2 => ⟨by omega, ?_⟩, fun h2 => ⟨?_, rfl⟩⟩⟩
      · rw [Int.toNat_natCast] at h2
        have := ih (i + 1) (by omega)
        unfold whoF
        rw [if_neg h2]
        exact this
      · rw [Int.toNat_natCast] at h2
        unfold whoF
        rw [if_pos h2]
  refine rX8_whoIsAt_0 hk ?_
  exact key e.toNat 0 (by omega)
