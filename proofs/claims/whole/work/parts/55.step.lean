/-! ===== moves: what a step does ===== -/
theorem gst_at {m : Nat} {g : List Nat} {a c b : Nat} (h : b < m) : gn (gst m g a c) b = if b = c then a else if gn g b = a then 9 else gn g b := by
  unfold gst
  show ((List.range m).map _).getD b 9 = _
  simp [List.getD, h]
theorem gn_ext {g g' : List Nat} {m : Nat} (h1 : g.length = m) (h2 : g'.length = m) (h : ∀ b, b < m → gn g b = gn g' b) : g = g' := by
  refine List.ext_getElem (by omega) (fun i hi hi' => ?_)
  have := h i (by omega)
  unfold gn at this
  simpa [List.getD, hi, hi'] using this
/-- the shop that aims at a free slot, if there is one -/
theorem gOf_step {p q : List Nat} {a s : Nat} (hn : p.Nodup) (hq : q.Nodup) (hl : q.length = p.length) (h5 : p.length ≤ 5) (ha : a < p.length) (hs : s ∉ p) : ∃ c, ((c = 9 ∧ s ∉ q) ∨ (c < p.length ∧ gn (gOf p q) c = 9 ∧ pg q c = s)) ∧ gOf (p.set a s) q = gst p.length (gOf p q) a c := by
  have hmem : ∀ x, x ∈ p.set a s ↔ (x = s ∨ (x ∈ p ∧ x ≠ pg p a)) := fun x => by
    constructor
    · intro h
      obtain ⟨j, hj, e⟩ := mem_pg h
      rw [List.length_set] at hj
      rw [pg_set ha] at e
      by_cases z : j = a
      · rw [if_pos z] at e; exact Or.inl e.symm
      · rw [if_neg z] at e
        exact Or.inr ⟨e ▸ pg_mem hj, fun y => z (pg_inj hn hj ha (by rw [e, y]))⟩
    · rintro (h | ⟨h, h2⟩)
      · rw [h]
        have : pg (p.set a s) a = s := by rw [pg_set ha, if_pos rfl]
        have h0 := pg_mem (p := p.set a s) (i := a) (by rw [List.length_set]; exact ha)
        rw [this] at h0
        exact h0
      · obtain ⟨j, hj, e⟩ := mem_pg h
        have hja : j ≠ a := fun y => h2 (by rw [← e, y])
        have : pg (p.set a s) j = x := by rw [pg_set ha, if_neg hja, e]
        rw [← this]
        exact pg_mem (by rw [List.length_set]; exact hj)
  have hn' : (p.set a s).Nodup := (set_ok (n := p.foldl Nat.max s + 1) ⟨fun t ht => by
    have : ∀ (l : List Nat) (z : Nat), z ≤ l.foldl Nat.max z ∧ ∀ t ∈ l, t ≤ l.foldl Nat.max z := by
      intro l
      induction l with
      | nil => intro z; exact ⟨Nat.le_refl _, fun t h => by cases h⟩
      | cons x l ih =>
        intro z
        have := ih (Nat.max z x)
        refine ⟨Nat.le_trans (Nat.le_max_left z x) this.1, fun t ht => ?_⟩
        rcases List.mem_cons.mp ht with rfl | ht
        · exact Nat.le_trans (Nat.le_max_right z t) this.1
        · exact this.2 t ht
    have := (this p s).2 t ht
    omega, hn⟩ (by
    have : ∀ (l : List Nat) (z : Nat), z ≤ l.foldl Nat.max z := by
      intro l
      induction l with
      | nil => intro z; exact Nat.le_refl _
      | cons x l ih => intro z; exact Nat.le_trans (Nat.le_max_left z x) (ih (Nat.max z x))
    have := this p s
    omega) hs).2
  have hlen : (p.set a s).length = p.length := List.length_set ..
  -- the new sitter on b's aim
  have hval : ∀ b, b < p.length → gn (gOf (p.set a s) q) b = if pg q b = s then a else if gn (gOf p q) b = a then 9 else gn (gOf p q) b := fun b hb => by
    have hnew := gOf_lt (p := p.set a s) (q := q) (b := b) (by omega) (by omega)
    by_cases e : pg q b = s
    · rw [if_pos e]
      rcases hnew with ⟨h1, h2, h3, h4⟩ | ⟨h1, h2⟩
      · refine pg_inj hn' h2 (by omega) ?_
        rw [h4, pg_set ha, if_pos rfl, e]
      · exact absurd ((hmem _).mpr (Or.inl e)) h1
    · rw [if_neg e]
      rcases gOf_lt (q := q) hb h5 with ⟨g1, g2, g3, g4⟩ | ⟨g1, g2⟩
      · by_cases e2 : gn (gOf p q) b = a
        · rw [if_pos e2]
          rw [e2] at g4
          rcases hnew with ⟨h1, -⟩ | ⟨h1, h2⟩
          · rcases (hmem _).mp h1 with h | ⟨-, h⟩
            · exact absurd h e
            · exact absurd g4.symm h
          · exact h2
        · rw [if_neg e2]
          rcases hnew with ⟨h1, h2, h3, h4⟩ | ⟨h1, h2⟩
          · refine pg_inj hn' h2 (by omega) ?_
            rw [h4, pg_set ha, if_neg e2, g4]
          · refine absurd ((hmem _).mpr (Or.inr ⟨g1, fun y => e2 (pg_inj hn g2 ha (by rw [g4, y]))⟩)) h1
      · rw [g2, if_neg (by omega)]
        rcases hnew with ⟨h1, -⟩ | ⟨h1, h2⟩
        · rcases (hmem _).mp h1 with h | ⟨h, -⟩
          · exact absurd h e
          · exact absurd h g1
        · exact h2
  have lg : (gOf (p.set a s) q).length = p.length := by simp [gOf]
  have lg2 : ∀ c, (gst p.length (gOf p q) a c).length = p.length := fun c => by simp [gst]
  by_cases hsq : s ∈ q
  · obtain ⟨c, hc, e⟩ := mem_pg hsq
    refine ⟨c, Or.inr ⟨by omega, ?_, e⟩, gn_ext lg (lg2 c) (fun b hb => ?_)⟩
    · rcases gOf_lt (p := p) (q := q) (b := c) (by omega) h5 with ⟨h1, -⟩ | ⟨-, h⟩
      · rw [e] at h1; exact absurd h1 hs
      · exact h
    · rw [hval b hb, gst_at hb]
      by_cases z : b = c
      · rw [if_pos z, if_pos (by rw [z, e])]
      · rw [if_neg z, if_neg (fun y => z (pg_inj hq (by omega) hc (by rw [y, e])))]
  · refine ⟨9, Or.inl ⟨rfl, hsq⟩, gn_ext lg (lg2 9) (fun b hb => ?_)⟩
    rw [hval b hb, gst_at hb, if_neg (show ¬ pg q b = s from fun y => hsq (by rw [← y]; exact pg_mem (by omega))), if_neg (show ¬ b = 9 by omega)]
