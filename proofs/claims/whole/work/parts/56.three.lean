/-! ===== moves: three kinds of steps ===== -/
theorem sumF_one {f f' : Nat → Int} {a : Nat} : ∀ {m : Nat}, a < m → (∀ b, b < m → b ≠ a → f' b = f b) → sumF f' m = sumF f m + (f' a - f a)
  | 0, h, _ => by omega
  | m + 1, h, hb => by
    rw [sumF_succ, sumF_succ]
    by_cases e : a = m
    · subst e
      rw [sumF_cong (fun b hb2 => hb b (by omega) (by omega))]
      omega
    · rw [sumF_one (by omega) (fun b hb2 hne => hb b (by omega) hne), hb m (by omega) (fun z => e z.symm)]
      omega
theorem map_range_eq {α : Type} {f f' : Nat → α} {m : Nat} (h : (List.range m).map f = (List.range m).map f') : ∀ b, b < m → f b = f' b := fun b hb => by
  have h1 : ((List.range m).map f)[b]? = ((List.range m).map f')[b]? := by rw [h]
  simpa [hb] using h1
theorem map_range_set {α : Type} {f f' : Nat → α} {m a : Nat} {x y : α} (h : ((List.range m).map f).set a x = ((List.range m).map f').set a y) : ∀ b, b < m → b ≠ a → f b = f' b := fun b hb hne => by
  have h1 : (((List.range m).map f).set a x)[b]? = (((List.range m).map f').set a y)[b]? := by rw [h]
  rw [List.getElem?_set_ne (Ne.symm hne), List.getElem?_set_ne (Ne.symm hne)] at h1
  simpa [hb] using h1
theorem ml_nn {w : Nat → Int} (hw : ∀ b, 0 ≤ w b) (l : List Nat) : 0 ≤ ml w l := by
  cases l with
  | nil => exact Int.le_refl _
  | cons x t =>
    have : ∀ (t : List Nat) (v : Int), 0 ≤ v → 0 ≤ t.foldl (fun l c => if l ≤ w c then l else w c) v := by
      intro t
      induction t with
      | nil => intro v h; exact h
      | cons y t ih =>
        intro v h
        refine ih _ ?_
        have := hw y
        show 0 ≤ (if v ≤ w y then v else w y)
        split <;> omega
    exact this t _ (hw x)
def plc (w : Nat → Int) (g : List Nat) (b : Nat) : Int := if gn g b = b then 0 else w b
theorem lstG_eq (w : Nat → Int) (g : List Nat) (m : Nat) : lstG w g m = sumF (plc w g) m + sumF (fun b => ml w (cy g b)) m := rfl
theorem three {m : Nat} {g : List Nat} {a c : Nat} (h : okG m g) (h5 : m ≤ 5) (ha : a < m) (hc : c = 9 ∨ (c < m ∧ gn g c = 9)) : (∃ e : (Nat → Int) → Int, (∀ w : Nat → Int, (∀ b, 0 ≤ w b) → 0 ≤ e w) ∧ (∀ w, lstG w (gst m g a c) m = lstG w g m + e w) ∧ (gn g a = a ∨ ((∀ b, b < m → a ∉ cy g b) ∧ gn (gst m g a c) a ≠ a))) ∨ (gn (gst m g a c) a = a ∧ gn g a ≠ a ∧ ∀ w, lstG w (gst m g a c) m = lstG w g m - w a) ∨ (gn (gst m g a c) a ≠ a ∧ ∃ b, b < m ∧ a ∈ cy g b ∧ ∀ w, lstG w (gst m g a c) m = lstG w g m - ml w (cy g b)) := by
  have hk := List.all_eq_true.mp (chk_ok h h5) a (List.mem_range.mpr ha)
  have hk2 := List.all_eq_true.mp hk c (by
    rcases hc with rfl | ⟨hc, -⟩
    · exact List.mem_cons_self ..
    · exact List.mem_cons_of_mem _ (List.mem_range.mpr hc))
  have hk3 : chk m g a c = true := by
    rw [Bool.or_eq_true] at hk2
    refine hk2.resolve_left (fun z => ?_)
    rw [Bool.and_eq_true] at z
    rcases hc with rfl | ⟨-, hc⟩
    · simp at z
    · rw [hc] at z; simp at z
  clear hk hk2
  generalize hg : gst m g a c = g' at *
  unfold chk at hk3
  simp only [hg] at hk3
  have none_in : (cyOf g m).all (fun l => !l.contains a) = true → ∀ b, b < m → a ∉ cy g b := fun hz b hb hm => by
    have := List.all_eq_true.mp hz (cy g b) (List.mem_map.mpr ⟨b, List.mem_range.mpr hb, rfl⟩)
    rw [List.contains_iff_mem.mpr hm] at this
    cases this
  have getC : ∀ (x : List Nat) b, b < m → (cyOf x m).getD b [] = cy x b := fun x b hb => by simp [cyOf, List.getD, hb]
  split at hk3
  · rename_i e
    rw [beq_iff_eq] at e
    rw [Bool.and_eq_true, beq_iff_eq, beq_iff_eq] at hk3
    obtain ⟨h1, h2⟩ := hk3
    have hC := map_range_eq h1
    have hP : ∀ b, b < m → b ≠ a → (gn g' b == b) = (gn g b == b) := fun b hb hne => by
      have h3 : (inP g' m)[b]? = ((inP g m).set a false)[b]? := by rw [h2]
      rw [List.getElem?_set_ne (Ne.symm hne)] at h3
      simpa [inP, hb] using h3
    have hA : (gn g' a == a) = false := by
      have h3 : (inP g' m)[a]? = ((inP g m).set a false)[a]? := by rw [h2]
      simpa [inP, ha] using h3
    refine Or.inl ⟨fun w => w a, fun w hw => hw a, fun w => ?_, Or.inl e⟩
    rw [lstG_eq, lstG_eq, sumF_one (f := plc w g) (f' := plc w g') ha (fun b hb hne => ?_), sumF_cong (f := fun b => ml w (cy g' b)) (g := fun b => ml w (cy g b)) (fun b hb => by rw [hC b hb])]
    · have h1 : plc w g' a = w a := if_neg (by simpa using hA)
      have h2 : plc w g a = 0 := if_pos e
      show _ = _ + w a
      omega
    · have := hP b hb hne
      unfold plc
      by_cases z : gn g b = b
      · rw [if_pos z, if_pos (by rw [beq_iff_eq.mpr z] at this; exact beq_iff_eq.mp this)]
      · rw [if_neg z, if_neg (fun y => z (by rw [beq_iff_eq.mpr y] at this; exact beq_iff_eq.mp this.symm))]
  · rename_i e
    rw [beq_iff_eq] at e
    split at hk3
    · rename_i e2
      rw [beq_iff_eq] at e2
      rw [Bool.and_eq_true, beq_iff_eq, beq_iff_eq] at hk3
      obtain ⟨h1, h2⟩ := hk3
      have hC := map_range_eq h1
      have hP : ∀ b, b < m → b ≠ a → (gn g' b == b) = (gn g b == b) := fun b hb hne => by
        have h3 : (inP g' m)[b]? = ((inP g m).set a true)[b]? := by rw [h2]
        rw [List.getElem?_set_ne (Ne.symm hne)] at h3
        simpa [inP, hb] using h3
      refine Or.inr (Or.inl ⟨e2, e, fun w => ?_⟩)
      rw [lstG_eq, lstG_eq, sumF_one (f := plc w g) (f' := plc w g') ha (fun b hb hne => ?_), sumF_cong (f := fun b => ml w (cy g' b)) (g := fun b => ml w (cy g b)) (fun b hb => by rw [hC b hb])]
      · have h1 : plc w g' a = 0 := if_pos e2
        have h2 : plc w g a = w a := if_neg e
        omega
      · have := hP b hb hne
        unfold plc
        by_cases z : gn g b = b
        · rw [if_pos z, if_pos (by rw [beq_iff_eq.mpr z] at this; exact beq_iff_eq.mp this)]
        · rw [if_neg z, if_neg (fun y => z (by rw [beq_iff_eq.mpr y] at this; exact beq_iff_eq.mp this.symm))]
    · rename_i e2
      rw [beq_iff_eq] at e2
      rw [Bool.and_eq_true, beq_iff_eq, Bool.or_eq_true] at hk3
      obtain ⟨h1, h2⟩ := hk3
      have hP := map_range_eq h1
      have hpl : ∀ w, sumF (plc w g') m = sumF (plc w g) m := fun w => sumF_cong (fun b hb => by
        have := hP b hb
        unfold plc
        by_cases z : gn g b = b
        · rw [if_pos z, if_pos (by rw [beq_iff_eq.mpr z] at this; exact beq_iff_eq.mp this.symm)]
        · rw [if_neg z, if_neg (fun y => z (by rw [beq_iff_eq.mpr y] at this; exact beq_iff_eq.mp this))])
      rcases h2 with h2 | h2
      · rw [Bool.and_eq_true, beq_iff_eq] at h2
        have hC := map_range_eq h2.1
        refine Or.inl ⟨fun _ => 0, fun _ _ => Int.le_refl _, fun w => ?_, Or.inr ⟨none_in h2.2, e2⟩⟩
        rw [lstG_eq, lstG_eq, hpl, sumF_cong (f := fun b => ml w (cy g' b)) (g := fun b => ml w (cy g b)) (fun b hb => by rw [hC b hb]), Int.add_zero]
      · obtain ⟨b, hb, h3⟩ := List.any_eq_true.mp h2
        have hb := List.mem_range.mp hb
        rw [Bool.and_eq_true, beq_iff_eq, getC g b hb, getC g' b hb] at h3
        have hC := map_range_set h3.1
        have hsum : ∀ w, sumF (fun b => ml w (cy g' b)) m = sumF (fun b => ml w (cy g b)) m + (ml w (cy g' b) - ml w (cy g b)) := fun w => sumF_one hb (fun b' hb' hne => by rw [hC b' hb' hne])
        have h4 := h3.2
        rw [Bool.or_eq_true, Bool.and_eq_true, Bool.and_eq_true, beq_iff_eq, beq_iff_eq] at h4
        rcases h4 with ⟨q1, q2⟩ | ⟨q1, q2⟩
        · refine Or.inl ⟨fun w => ml w (cy g' b), fun w hw => ml_nn hw _, fun w => ?_, Or.inr ⟨none_in q2, e2⟩⟩
          rw [lstG_eq, lstG_eq, hpl, hsum w, q1]
          show _ + (_ + (ml w (cy g' b) - 0)) = _ + ml w (cy g' b)
          omega
        · refine Or.inr (Or.inr ⟨e2, b, hb, List.contains_iff_mem.mp q2, fun w => ?_⟩)
          rw [lstG_eq, lstG_eq, hpl, hsum w, q1]
          show _ + (_ + (0 - _)) = _
          omega
