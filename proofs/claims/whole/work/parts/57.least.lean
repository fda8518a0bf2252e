/-! ===== moves: no step saves more than it weighs; some step saves that ===== -/
theorem fold_le {w : Nat → Int} : ∀ (t : List Nat) (v : Int), t.foldl (fun l c => if l ≤ w c then l else w c) v ≤ v ∧ ∀ a ∈ t, t.foldl (fun l c => if l ≤ w c then l else w c) v ≤ w a
  | [], v => ⟨Int.le_refl _, fun a h => by cases h⟩
  | x :: t, v => by
    have h := fold_le (w := w) t (if v ≤ w x then v else w x)
    rw [List.foldl_cons]
    refine ⟨?_, fun a ha => ?_⟩
    · have h1 := h.1
      split at h1 <;> split <;> omega
    · rcases List.mem_cons.mp ha with rfl | ha
      · have h1 := h.1
        split at h1 <;> split <;> omega
      · exact h.2 a ha
theorem ml_le {w : Nat → Int} {l : List Nat} {a : Nat} (h : a ∈ l) : ml w l ≤ w a := by
  cases l with
  | nil => cases h
  | cons x t =>
    have := fold_le (w := w) t (w x)
    rcases List.mem_cons.mp h with rfl | h
    · exact this.1
    · exact this.2 a h
theorem fold_at {w : Nat → Int} : ∀ (t : List Nat) (v : Int), t.foldl (fun l c => if l ≤ w c then l else w c) v = v ∨ ∃ a ∈ t, t.foldl (fun l c => if l ≤ w c then l else w c) v = w a
  | [], v => Or.inl rfl
  | x :: t, v => by
    rw [List.foldl_cons]
    rcases fold_at (w := w) t (if v ≤ w x then v else w x) with h | ⟨a, ha, h⟩
    · rw [h]
      split
      · exact Or.inl rfl
      · exact Or.inr ⟨x, List.mem_cons_self .., rfl⟩
    · exact Or.inr ⟨a, List.mem_cons_of_mem _ ha, h⟩
theorem ml_at {w : Nat → Int} {l : List Nat} (h : l ≠ []) : ∃ a ∈ l, ml w l = w a := by
  cases l with
  | nil => exact absurd rfl h
  | cons x t =>
    rcases fold_at (w := w) t (w x) with h | ⟨a, ha, h⟩
    · exact ⟨x, List.mem_cons_self .., h⟩
    · exact ⟨a, List.mem_cons_of_mem _ ha, h⟩
theorem fold_cong {w w' : Nat → Int} : ∀ (t : List Nat) (v : Int), (∀ a ∈ t, w a = w' a) → t.foldl (fun l c => if l ≤ w c then l else w c) v = t.foldl (fun l c => if l ≤ w' c then l else w' c) v
  | [], v, _ => rfl
  | x :: t, v, h => by
    rw [List.foldl_cons, List.foldl_cons, h x (List.mem_cons_self ..)]
    exact fold_cong t _ (fun a ha => h a (List.mem_cons_of_mem _ ha))
theorem ml_cong {w w' : Nat → Int} {l : List Nat} (h : ∀ a ∈ l, w a = w' a) : ml w l = ml w' l := by
  cases l with
  | nil => rfl
  | cons x t =>
    show t.foldl _ (w x) = t.foldl _ (w' x)
    rw [h x (List.mem_cons_self ..)]
    exact fold_cong t _ (fun a ha => h a (List.mem_cons_of_mem _ ha))
def w3 (w : Nat → Int) (b : Nat) : Int := 1000 * w b + 1
theorem fold_lin {w : Nat → Int} : ∀ (t : List Nat) (v : Int), t.foldl (fun l c => if l ≤ w3 w c then l else w3 w c) (1000 * v + 1) = 1000 * t.foldl (fun l c => if l ≤ w c then l else w c) v + 1
  | [], v => rfl
  | x :: t, v => by
    rw [List.foldl_cons, List.foldl_cons]
    have e : (if 1000 * v + 1 ≤ w3 w x then 1000 * v + 1 else w3 w x) = 1000 * (if v ≤ w x then v else w x) + 1 := by
      unfold w3
      split <;> split <;> omega
    rw [e]
    exact fold_lin t _
theorem ml_lin {w : Nat → Int} (l : List Nat) : ml (w3 w) l = 1000 * ml w l + (if l = [] then 0 else 1) := by
  cases l with
  | nil => rfl
  | cons x t =>
    rw [if_neg (by simp)]
    exact fold_lin t (w x)
theorem ml_one (l : List Nat) : ml (fun _ => 1) l = (if l = [] then 0 else 1) := by
  by_cases h : l = []
  · rw [h]; rfl
  · rw [if_neg h]
    obtain ⟨a, -, e⟩ := ml_at (w := fun _ => 1) h
    exact e
theorem lstG_lin (w : Nat → Int) (g : List Nat) : ∀ m, lstG (w3 w) g m = 1000 * lstG w g m + lstG (fun _ => 1) g m
  | 0 => rfl
  | m + 1 => by
    have ih := lstG_lin w g m
    rw [lstG_eq, lstG_eq, lstG_eq] at ih ⊢
    simp only [sumF_succ]
    rw [ml_lin, ml_one]
    have e : plc (w3 w) g m = 1000 * plc w g m + plc (fun _ => 1) g m := by
      unfold plc w3
      by_cases z : gn g m = m
      · rw [if_pos z, if_pos z, if_pos z]; rfl
      · rw [if_neg z, if_neg z, if_neg z]
    rw [e]
    omega
theorem cyF_lt {m : Nat} {g : List Nat} (h : okG m g) {st : Nat} : ∀ (f a : Nat) (acc : List Nat), a < m → (∀ x ∈ acc, x < m) → ∀ x ∈ cyF g st f a acc, x < m
  | 0, a, acc, _, _ => fun x hx => by cases hx
  | f + 1, a, acc, ha, hacc => by
    unfold cyF
    split
    · intro x hx; cases hx
    · split
      · intro x hx; cases hx
      · rename_i h1 h2
        have hg := (h.2.1 a ha).resolve_right h2
        split
        · exact hacc
        · split
          · intro x hx; cases hx
          · refine cyF_lt h f _ _ hg (fun x hx => ?_)
            rcases List.mem_append.mp hx with hx | hx
            · exact hacc x hx
            · rw [List.mem_singleton.mp hx]; exact hg
theorem cy_lt {m : Nat} {g : List Nat} (h : okG m g) {b : Nat} (hb : b < m) : ∀ x ∈ cy g b, x < m := cyF_lt h 5 b [b] hb (fun x hx => by rw [List.mem_singleton.mp hx]; exact hb)
theorem lstG_cong {m : Nat} {g : List Nat} {w w' : Nat → Int} (h : okG m g) (hw : ∀ b, b < m → w b = w' b) : lstG w g m = lstG w' g m := by
  rw [lstG_eq, lstG_eq]
  rw [sumF_cong (f := plc w g) (g := plc w' g) (fun b hb => by unfold plc; rw [hw b hb]), sumF_cong (f := fun b => ml w (cy g b)) (g := fun b => ml w' (cy g b)) (fun b hb => ml_cong (fun x hx => hw x (cy_lt h hb x hx)))]
