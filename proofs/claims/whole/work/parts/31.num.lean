/-! ===== places as numbers in their order ===== -/
def nm : List Nat → Nat
  | [] => 0
  | s :: p => s * 6 ^ p.length + nm p
theorem nm_lt : ∀ (p : List Nat), (∀ s ∈ p, s < 6) → nm p < 6 ^ p.length
  | [], _ => by decide
  | s :: p, h => by
    have h1 := List.forall_mem_cons.mp h
    have h2 := nm_lt p h1.2
    unfold nm
    rw [List.length_cons, Nat.pow_succ]
    generalize 6 ^ p.length = S at *
    have : s * S ≤ 5 * S := Nat.mul_le_mul_right S (by omega)
    omega
theorem nm_snoc : ∀ (p : List Nat) (s : Nat), nm (p ++ [s]) = 6 * nm p + s
  | [], s => by simp [nm]
  | t :: p, s => by
    have h := nm_snoc p s
    rw [List.cons_append, nm, h, nm, List.length_append, List.length_singleton, Nat.pow_succ]
    rw [Nat.mul_add, ← Nat.mul_assoc t, Nat.mul_comm (t * 6 ^ p.length) 6]
    omega
theorem nm_lex : ∀ (p q : List Nat), p.length = q.length → (∀ s ∈ p, s < 6) → (∀ s ∈ q, s < 6) → (lexlt p q = true ↔ nm p < nm q)
  | [], [], _, _, _ => by simp [lexlt, nm]
  | [], t :: q, h, _, _ => by cases h
  | s :: p, [], h, _, _ => by cases h
  | s :: p, t :: q, h, h1, h2 => by
    have hl : p.length = q.length := by
      have := h
      rw [List.length_cons, List.length_cons] at this
      omega
    have a1 := List.forall_mem_cons.mp h1
    have a2 := List.forall_mem_cons.mp h2
    have ih := nm_lex p q hl a1.2 a2.2
    have b1 := nm_lt p a1.2
    have b2 := nm_lt q a2.2
    rw [lexlt_cons]
    unfold nm
    rw [hl] at b1 ⊢
    generalize 6 ^ q.length = S at *
    by_cases e : s = t
    · subst e
      rw [if_pos rfl, ih]
      omega
    · rw [if_neg e, decide_eq_true_eq]
      by_cases e1 : s < t
      · have : (s + 1) * S ≤ t * S := Nat.mul_le_mul_right S e1
        rw [Nat.add_mul] at this
        omega
      · have : (t + 1) * S ≤ s * S := Nat.mul_le_mul_right S (by omega)
        rw [Nat.add_mul] at this
        omega
theorem dig_nm : ∀ (m : Nat) (p : List Nat), p.length = m → (∀ s ∈ p, s < 6) → dig m (nm p) = p
  | 0, p, h, _ => by rw [List.length_eq_zero_iff.mp h]; rfl
  | m + 1, p, h, hs => by
    have hne : p ≠ [] := fun q => by rw [q] at h; cases h
    obtain ⟨q, s, rfl⟩ : ∃ q s, p = q ++ [s] := ⟨p.dropLast, p.getLast hne, (List.dropLast_concat_getLast hne).symm⟩
    rw [List.length_append, List.length_singleton] at h
    have hss := hs s (by simp)
    have ih := dig_nm m q (by omega) (fun t ht => hs t (List.mem_append_left _ ht))
    unfold dig
    rw [nm_snoc, show (6 * nm q + s) / 6 = nm q by omega, show (6 * nm q + s) % 6 = s by omega, ih]
theorem dig_lt : ∀ (m k : Nat), ∀ s ∈ dig m k, s < 6
  | 0, k => by intro s h; cases h
  | m + 1, k => by
    intro s h
    unfold dig at h
    rcases List.mem_append.mp h with h | h
    · exact dig_lt m _ s h
    · rw [List.mem_singleton.mp h]; omega
theorem nm_dig : ∀ (m k : Nat), k < 6 ^ m → nm (dig m k) = k
  | 0, k, h => by
    have : k < 1 := h
    show (0 : Nat) = k
    omega
  | m + 1, k, h => by
    rw [Nat.pow_succ] at h
    unfold dig
    rw [nm_snoc, nm_dig m (k / 6) (by omega)]
    omega
theorem nm_inj {p q : List Nat} (h : p.length = q.length) (hp : ∀ s ∈ p, s < 6) (hq : ∀ s ∈ q, s < 6) (e : nm p = nm q) : p = q := by
  rw [← dig_nm p.length p rfl hp, e, h, dig_nm q.length q rfl hq]
theorem enumN_iff {m n : Nat} {p : List Nat} (hn : n ≤ 6) : p ∈ enumN m n ↔ p.length = m ∧ okP n p := by
  refine ⟨enumN_mem, fun h => ?_⟩
  have h6 : ∀ s ∈ p, s < 6 := fun s hs => Nat.lt_of_lt_of_le (h.2.1 s hs) hn
  refine List.mem_filter.mpr ⟨List.mem_map.mpr ⟨nm p, List.mem_range.mpr ?_, dig_nm m p h.1 h6⟩, (vB_iff _).mpr h.2⟩
  rw [← h.1]
  exact nm_lt p h6
theorem enum_len : ∀ n, n < 7 → ∀ m, m < 6 → m ≤ n → (enumN m n).length ≤ 720 := by
  intro n hn m hm hmn
  rw [← walk_enum n hn m hm hmn]
  have : ∀ (f : Nat) (p : List Nat), (walkN n f p).length ≤ f := by
    intro f
    induction f with
    | zero => intro p; exact Nat.le_refl _
    | succ f ih =>
      intro p
      unfold walkN
      cases nxt n p with
      | none => simp
      | some q =>
        show (walkN n f q).length + 1 ≤ f + 1
        have := ih q
        omega
  exact this 720 _
theorem isPl_iff {m n : Nat} {p : List Nat} : isPl m n p ↔ p.length = m ∧ okP n p := Iff.rfl
/-! changes keep places places; the best change costs less -/
theorem chg_nd {p q : List Nat} {a s : Nat} (hn : p.Nodup) (ha : a < p.length) (h : chg p a s = some q) : q.Nodup := by
  have inj : ∀ i j, i < p.length → j < p.length → pg p i = pg p j → i = j := fun i j hi hj e => by
    rw [pg_eq hi, pg_eq hj] at e
    have hw := List.pairwise_iff_getElem.mp (List.nodup_iff_pairwise_ne.mp hn)
    rcases Nat.lt_trichotomy i j with q | q | q
    · exact absurd e (hw i j hi hj q)
    · exact q
    · exact absurd e.symm (hw j i hj hi q)
  have key : ∀ q : List Nat, (∀ i j, i < j → j < q.length → pg q i ≠ pg q j) → q.Nodup := fun q hq => by
    rw [List.nodup_iff_pairwise_ne, List.pairwise_iff_getElem]
    intro i j hi hj hij e
    have := hq i j hij hj
    rw [pg_eq hi, pg_eq hj] at this
    exact this e
  unfold chg at h
  split at h
  · rename_i hs
    split at h
    · cases h
    · rename_i hne
      cases h
      have hb : p.idxOf s < p.length := List.idxOf_lt_length_of_mem hs
      have hbs : pg p (p.idxOf s) = s := by rw [pg_eq hb]; exact List.getElem_idxOf hb
      refine key _ (fun i j hij hj e => ?_)
      rw [List.length_set, List.length_set] at hj
      have hab : a ≠ p.idxOf s := fun q => hne (by rw [q]; exact hbs)
      have hset : ∀ l, (l = p.idxOf s ∧ pg ((p.set a s).set (p.idxOf s) (pg p a)) l = pg p a) ∨ (l = a ∧ l ≠ p.idxOf s ∧ pg ((p.set a s).set (p.idxOf s) (pg p a)) l = pg p (p.idxOf s)) ∨ (l ≠ a ∧ l ≠ p.idxOf s ∧ pg ((p.set a s).set (p.idxOf s) (pg p a)) l = pg p l) := fun l => by
        rw [pg_set (i := p.idxOf s) (by rw [List.length_set]; exact hb), pg_set ha]
        by_cases q : l = p.idxOf s
        · exact Or.inl ⟨q, if_pos q⟩
        · rw [if_neg q]
          by_cases q2 : l = a
          · exact Or.inr (Or.inl ⟨q2, q, by rw [if_pos q2, hbs]⟩)
          · exact Or.inr (Or.inr ⟨q2, q, if_neg q2⟩)
      rcases hset i with ⟨i1, i2⟩ | ⟨i1, i2, i3⟩ | ⟨i1, i2, i3⟩ <;> rcases hset j with ⟨j1, j2⟩ | ⟨j1, j2, j3⟩ | ⟨j1, j2, j3⟩
      · omega
      · rw [i2, j3] at e; exact hab (inj _ _ ha hb e)
      · rw [i2, j3] at e; exact j1 (inj _ _ ha hj e).symm
      · rw [i3, j2] at e; exact hab (inj _ _ hb ha e).symm
      · omega
      · rw [i3, j3] at e; exact j2 (inj _ _ hb hj e).symm
      · rw [i3, j2] at e; exact i1 (inj _ _ (by omega) ha e)
      · rw [i3, j3] at e; exact i2 (inj _ _ (by omega) hb e)
      · rw [i3, j3] at e; exact absurd (inj i j (by omega) hj e) (by omega)
  · rename_i hs
    cases h
    refine key _ (fun i j hij hj e => ?_)
    rw [List.length_set] at hj
    by_cases ia : i = a <;> by_cases ja : j = a
    · omega
    · rw [pg_set ha, if_pos ia, pg_set ha, if_neg ja] at e; exact hs (e ▸ pg_mem hj)
    · rw [pg_set ha, if_neg ia, pg_set ha, if_pos ja] at e; exact hs (e ▸ pg_mem (by omega))
    · rw [pg_set ha, if_neg ia, pg_set ha, if_neg ja] at e; exact absurd (inj i j (by omega) hj e) (by omega)
theorem chg_okP {n a s : Nat} {p q : List Nat} (hp : okP n p) (ha : a < p.length) (hs : s < n) (h : chg p a s = some q) : q.length = p.length ∧ okP n q :=
  ⟨(chg_ok hp ha hs h).1, (chg_ok hp ha hs h).2, chg_nd hp.2 ha h⟩
/-- what a search for a change holds -/
def fcI (c : List Nat → Int) (n : Nat) (p : List Nat) (st : Int × Option (List Nat)) : Prop := (st = (c p, none)) ∨ ∃ q, st = (c q, some q) ∧ q.length = p.length ∧ okP n q ∧ c q ≠ -1 ∧ (c p = -1 ∨ c q < c p)
theorem fcI_cst {c : List Nat → Int} {n : Nat} {p q : List Nat} {st : Int × Option (List Nat)} (h : fcI c n p st) (hl : q.length = p.length) (hq : okP n q) : fcI c n p (cst c st q) := by
  unfold cst
  by_cases e : c q = -1
  · rw [if_pos e]; exact h
  · rw [if_neg e]
    rcases h with rfl | ⟨r, rfl, h1, h2, h3, h4⟩
    · by_cases e2 : c p = -1 ∨ c q < c p
      · rw [if_pos e2]; exact Or.inr ⟨q, rfl, hl, hq, e, e2⟩
      · rw [if_neg e2]; exact Or.inl rfl
    · by_cases e2 : c r = -1 ∨ c q < c r
      · rw [if_pos e2]; exact Or.inr ⟨q, rfl, hl, hq, e, by omega⟩
      · rw [if_neg e2]
        show fcI c n p (if c q = c r ∧ lexlt q r = true then (c q, some q) else (c r, some r))
        split
        · exact Or.inr ⟨q, rfl, hl, hq, e, by omega⟩
        · exact Or.inr ⟨r, rfl, h1, h2, h3, h4⟩
theorem fcI_chA {c : List Nat → Int} {n a : Nat} {p : List Nat} (hp : okP n p) (ha : a < p.length) : ∀ (d s : Nat) (st : Int × Option (List Nat)), s + d ≤ n → fcI c n p st → fcI c n p (chA c p a s d st)
  | 0, s, st, _, h => h
  | d + 1, s, st, hs, h => by
    unfold chA
    refine fcI_chA hp ha d (s + 1) _ (by omega) ?_
    cases e : chg p a s with
    | none => exact h
    | some q =>
      have w := chg_okP hp ha (by omega) e
      exact fcI_cst h w.1 w.2
theorem fcI_chB {c : List Nat → Int} {n : Nat} {p : List Nat} (hp : okP n p) : ∀ (d a : Nat) (st : Int × Option (List Nat)), a + d ≤ p.length → fcI c n p st → fcI c n p (chB c p n a d st)
  | 0, a, st, _, h => h
  | d + 1, a, st, hs, h => by
    unfold chB
    exact fcI_chB hp d (a + 1) _ (by omega) (fcI_chA hp (by omega) n 0 st (by omega) h)
theorem fcS_some {c : List Nat → Int} {n : Nat} {p q : List Nat} (hp : okP n p) (h : (fcS c n p).2 = some q) : q.length = p.length ∧ okP n q ∧ c q ≠ -1 ∧ (c p = -1 ∨ c q < c p) := by
  rcases fcI_chB (c := c) hp p.length 0 (c p, none) (by omega) (Or.inl rfl) with w | ⟨r, w, h1, h2, h3, h4⟩
  · unfold fcS at h
    rw [w] at h
    cases h
  · unfold fcS at h
    rw [w] at h
    cases h
    exact ⟨h1, h2, h3, h4⟩
/-- some changes one after the other -/
def clS (c : List Nat → Int) (n : Nat) (p : List Nat) : Nat → List Nat → Prop
  | 0, q => q = p
  | k + 1, q => ∃ r, clS c n p k r ∧ (fcS c n r).2 = some q
theorem clS_ok {c : List Nat → Int} {n : Nat} {p : List Nat} (hp : okP n p) : ∀ k q, clS c n p k q → q.length = p.length ∧ okP n q
  | 0, q, h => by
    have e : q = p := h
    subst e
    exact ⟨rfl, hp⟩
  | k + 1, q, h => by
    obtain ⟨r, h1, h2⟩ := h
    have w := clS_ok hp k r h1
    have w2 := fcS_some w.2 h2
    exact ⟨by rw [w2.1]; exact w.1, w2.2.1⟩
theorem clS_un {c : List Nat → Int} {n : Nat} {p : List Nat} : ∀ k q r, clS c n p k q → clS c n p k r → q = r
  | 0, q, r, h, h2 => Eq.trans (b := p) h (Eq.symm h2)
  | k + 1, q, r, ⟨a, h1, h2⟩, ⟨b, h3, h4⟩ => by
    have e := clS_un k a b h1 h3
    subst e
    rw [h2] at h4
    cases h4
    rfl
theorem clS_hist {c : List Nat → Int} {n : Nat} {p : List Nat} (hp : okP n p) : ∀ k q, clS c n p (k + 1) q → c q ≠ -1 ∧ ∃ H : List (List Nat), H.length = k + 1 ∧ H.Nodup ∧ ∀ r ∈ H, r.length = p.length ∧ okP n r ∧ c q ≤ c r
  | 0, q, h => by
    have w := clS_ok hp 1 q h
    obtain ⟨r, h1, h2⟩ := h
    have w1 := clS_ok hp 0 r h1
    have w2 := fcS_some w1.2 h2
    exact ⟨w2.2.2.1, [q], rfl, by simp, fun x hx => by rw [List.mem_singleton.mp hx]; exact ⟨w.1, w.2, Int.le_refl _⟩⟩
  | k + 1, q, h => by
    have w := clS_ok hp (k + 2) q h
    obtain ⟨r, h1, h2⟩ := h
    have w1 := clS_ok hp (k + 1) r h1
    obtain ⟨g1, H, g2, g3, g4⟩ := clS_hist hp k r h1
    have w2 := fcS_some w1.2 h2
    have hlt : c q < c r := w2.2.2.2.resolve_left g1
    refine ⟨w2.2.2.1, q :: H, by rw [List.length_cons, g2], List.nodup_cons.mpr ⟨fun hm => ?_, g3⟩, fun x hx => ?_⟩
    · have := (g4 q hm).2.2
      omega
    · rcases List.mem_cons.mp hx with rfl | hx
      · exact ⟨w.1, w.2, Int.le_refl _⟩
      · have := g4 x hx
        exact ⟨this.1, this.2.1, by omega⟩
theorem clS_bd {c : List Nat → Int} {n k : Nat} {p q : List Nat} (hp : okP n p) (hn : n ≤ 6) (h5 : p.length ≤ 5) (hpn : p.length ≤ n) (h : clS c n p k q) : k ≤ 720 := by
  cases k with
  | zero => omega
  | succ k =>
    obtain ⟨-, H, g2, g3, g4⟩ := clS_hist hp k q h
    have h2 := List.Nodup.length_le_of_subset g3 (l₂ := enumN p.length n) (fun r hr => (enumN_iff hn).mpr ⟨(g4 r hr).1, (g4 r hr).2.1⟩)
    have h3 := enum_len n (by omega) p.length (by omega) hpn
    omega
