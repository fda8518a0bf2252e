/-! ===== moves: weights over the loops ===== -/
def ml (w : Nat → Int) : List Nat → Int
  | [] => 0
  | h :: t => t.foldl (fun l c => if l ≤ w c then l else w c) (w h)
theorem ml_snoc {w : Nat → Int} {acc : List Nat} (h : acc ≠ []) (c : Nat) : ml w (acc ++ [c]) = if ml w acc ≤ w c then ml w acc else w c := by
  cases acc with
  | nil => exact absurd rfl h
  | cons x t =>
    show (t ++ [c]).foldl _ _ = _
    rw [List.foldl_append]
    rfl
def gOf (p q : List Nat) : List Nat := (List.range p.length).map (fun b => if pg q b ∈ p then p.idxOf (pg q b) else 9)
theorem gOf_at {p q : List Nat} {b : Nat} (h : b < p.length) : gn (gOf p q) b = if pg q b ∈ p then p.idxOf (pg q b) else 9 := by
  unfold gn gOf
  simp [List.getD, h]
theorem gOf_lt {p q : List Nat} {b : Nat} (h : b < p.length) (h5 : p.length ≤ 5) : (pg q b ∈ p ∧ gn (gOf p q) b < p.length ∧ gn (gOf p q) b ≠ 9 ∧ pg p (gn (gOf p q) b) = pg q b) ∨ (pg q b ∉ p ∧ gn (gOf p q) b = 9) := by
  rw [gOf_at h]
  by_cases e : pg q b ∈ p
  · rw [if_pos e]
    have hl : p.idxOf (pg q b) < p.length := List.idxOf_lt_length_of_mem e
    exact Or.inl ⟨e, hl, by omega, by rw [pg_eq hl]; exact List.getElem_idxOf hl⟩
  · rw [if_neg e]; exact Or.inr ⟨e, rfl⟩
theorem gOf_in {p q : List Nat} {b : Nat} (hn : p.Nodup) (h : b < p.length) (h5 : p.length ≤ 5) : pg p b = pg q b ↔ gn (gOf p q) b = b := by
  rcases gOf_lt (q := q) h h5 with ⟨h1, h2, h3, h4⟩ | ⟨h1, h2⟩
  · exact ⟨fun e => pg_inj hn h2 h (by rw [h4, e]), fun e => by rw [← h4, e]⟩
  · rw [h2]
    exact ⟨fun e => absurd (e ▸ pg_mem h) h1, fun e => by omega⟩
theorem gOf_ok {p q : List Nat} (hq : q.Nodup) (hl : q.length = p.length) (h5 : p.length ≤ 5) : okG p.length (gOf p q) := by
  refine ⟨by simp [gOf], fun b hb => ?_, fun b b' hb hb' hne e => ?_⟩
  · rcases gOf_lt (q := q) hb h5 with ⟨-, h, -⟩ | ⟨-, h⟩
    · exact Or.inl h
    · exact Or.inr h
  · rcases gOf_lt (q := q) hb h5 with ⟨-, -, -, h1⟩ | ⟨-, h⟩
    · rcases gOf_lt (q := q) hb' h5 with ⟨-, -, -, h2⟩ | ⟨-, h⟩
      · rw [e, h2] at h1
        exact absurd (pg_inj hq (by omega) (by omega) h1.symm) hne
      · rw [e, h]
    · exact h
theorem aswF_g {w : Nat → Int} {p q : List Nat} {st : Nat} (hn : p.Nodup) (h5 : p.length ≤ 5) : ∀ (f a : Nat) (acc : List Nat), a < p.length → acc ≠ [] → aswF w p q st f a (ml w acc) = ml w (cyF (gOf p q) st f a acc)
  | 0, a, acc, _, _ => rfl
  | f + 1, a, acc, ha, hne => by
    have hin := gOf_in (q := q) hn ha h5
    unfold aswF cyF
    by_cases e : pg p a = pg q a
    · rw [if_pos e, if_pos (hin.mp e)]; rfl
    · rw [if_neg e, if_neg (fun z => e (hin.mpr z))]
      have hat := gOf_at (q := q) ha
      rcases gOf_lt (q := q) ha h5 with ⟨h1, h2, h3, h4⟩ | ⟨h1, h2⟩
      · rw [if_pos h1] at hat
        rw [if_neg (fun z => z h1), if_neg h3, ← hat]
        by_cases e2 : gn (gOf p q) a = st
        · rw [if_pos e2, if_pos e2]
        · rw [if_neg e2, if_neg e2]
          by_cases e3 : gn (gOf p q) a < st
          · rw [if_pos e3, if_pos e3]; rfl
          · rw [if_neg e3, if_neg e3, ← ml_snoc hne]
            exact aswF_g hn h5 f _ _ h2 (by simp)
      · rw [if_pos h1, if_pos h2]; rfl
/-- what a way to the aim costs, where a slot is free -/
def lstC (w : Nat → Int) (p q : List Nat) : Int := mvL w p q + sumF (aswL w p q) p.length
def lstG (w : Nat → Int) (g : List Nat) (m : Nat) : Int := sumF (fun b => if gn g b = b then 0 else w b) m + sumF (fun b => ml w (cy g b)) m
theorem lstC_g {w : Nat → Int} {p q : List Nat} (hn : p.Nodup) (h5 : p.length ≤ 5) : lstC w p q = lstG w (gOf p q) p.length := by
  unfold lstC lstG mvL
  congr 1
  · refine sumF_cong (fun b hb => ?_)
    have := gOf_in (q := q) hn hb h5
    by_cases e : pg p b = pg q b
    · rw [if_pos e, if_pos (this.mp e)]
    · rw [if_neg e, if_neg (fun z => e (this.mpr z))]
  · refine sumF_cong (fun b hb => ?_)
    unfold aswL cy
    exact aswF_g hn h5 5 b [b] hb (by simp)
