/-! ===== all places in their order ===== -/
def okP (n : Nat) (p : List Nat) : Prop := (∀ s ∈ p, s < n) ∧ p.Nodup
theorem okP.take {n : Nat} {p : List Nat} (h : okP n p) (t : Nat) : okP n (p.take t) := ⟨fun s hs => h.1 s (List.mem_of_mem_take hs), h.2.sublist (List.take_sublist t p)⟩
theorem okP.snoc {n s : Nat} {p : List Nat} (h : okP n p) (h1 : s < n) (h2 : s ∉ p) : okP n (p ++ [s]) := by
  refine ⟨fun t ht => ?_, List.nodup_append.mpr ⟨h.2, by simp, fun a ha b hb => by rw [List.mem_singleton.mp hb]; exact fun q => h2 (q ▸ ha)⟩⟩
  rcases List.mem_append.mp ht with q | q
  · exact h.1 t q
  · rw [List.mem_singleton.mp q]; exact h1
theorem fillF_ok {n : Nat} : ∀ (d : Nat) (p : List Nat), okP n p → okP n (fillF n d p)
  | 0, p, h => h
  | d + 1, p, h => by
    unfold fillF
    cases e : nf n p 0 with
    | none => exact h
    | some s =>
      have := nf_some e
      exact fillF_ok d _ (h.snoc this.2.1 this.2.2)
theorem nxtA_ok {n : Nat} {p q : List Nat} (hp : okP n p) (hn : p.length ≤ n) : ∀ (t : Nat), t ≤ p.length → nxtA n t p = some q → q.length = p.length ∧ okP n q
  | 0, _, h => by cases h
  | t + 1, ht, h => by
    unfold nxtA at h
    cases e : nf n (p.take t) (p.getD t 0 + 1) with
    | none =>
      rw [e] at h
      exact nxtA_ok hp hn t (by omega) h
    | some s =>
      rw [e] at h
      cases h
      have h1 := nf_some e
      have hl : (p.take t ++ [s]).length = t + 1 := by rw [List.length_append, List.length_singleton, List.length_take]; omega
      exact ⟨by rw [fillF_len n _ _ (by omega), hl]; omega, fillF_ok _ _ ((hp.take t).snoc h1.2.1 h1.2.2)⟩
theorem nxt_ok {n : Nat} {p q : List Nat} (hp : okP n p) (hn : p.length ≤ n) (h : nxt n p = some q) : q.length = p.length ∧ okP n q := nxtA_ok hp hn p.length (Nat.le_refl _) h
def walkN (n : Nat) : Nat → List Nat → List (List Nat)
  | 0, _ => []
  | f + 1, p => p :: match nxt n p with
    | some q => walkN n f q
    | none => []
/-- the places of a number, the first shop's slot its highest digit -/
def dig : Nat → Nat → List Nat
  | 0, _ => []
  | m + 1, k => dig m (k / 6) ++ [k % 6]
def vB (n : Nat) : List Nat → Bool
  | [] => true
  | s :: p => decide (s < n) && (!p.contains s && vB n p)
theorem vB_iff {n : Nat} : ∀ (p : List Nat), vB n p = true ↔ okP n p
  | [] => by simp [vB, okP]
  | s :: p => by
    have ih := vB_iff (n := n) p
    unfold vB
    simp only [Bool.and_eq_true, decide_eq_true_eq, Bool.not_eq_true', ih]
    unfold okP
    rw [List.nodup_cons]
    constructor
    · rintro ⟨h1, h2, h3, h4⟩
      refine ⟨List.forall_mem_cons.mpr ⟨h1, h3⟩, ?_, h4⟩
      intro hm
      rw [List.contains_iff_mem.mpr hm] at h2
      cases h2
    · rintro ⟨h1, h2, h3⟩
      have := List.forall_mem_cons.mp h1
      refine ⟨this.1, ?_, this.2, h3⟩
      cases e : p.contains s with
      | false => rfl
      | true => exact absurd (List.contains_iff_mem.mp e) h2
def enumN (m n : Nat) : List (List Nat) := ((List.range (6 ^ m)).map (dig m)).filter (vB n)
theorem walk_enum : ∀ n, n < 7 → ∀ m, m < 6 → m ≤ n → walkN n 720 (fillF n m []) = enumN m n := by decide +kernel
theorem dig_len : ∀ (m k : Nat), (dig m k).length = m
  | 0, _ => rfl
  | m + 1, k => by
    unfold dig
    rw [List.length_append, dig_len m, List.length_singleton]
theorem enumN_mem {m n : Nat} {p : List Nat} (h : p ∈ enumN m n) : p.length = m ∧ okP n p := by
  obtain ⟨h1, h2⟩ := List.mem_filter.mp h
  obtain ⟨k, -, rfl⟩ := List.mem_map.mp h1
  exact ⟨dig_len m k, (vB_iff _).mp h2⟩
