/-! ===== moves: steps of shops, in places ===== -/
def wZ (w : Nat → Int) (m b : Nat) : Int := if b < m then w b else 0
theorem wZ_in {w : Nat → Int} {m b : Nat} (h : b < m) : wZ w m b = w b := if_pos h
theorem wZ_nn {w : Nat → Int} {m : Nat} (h : ∀ b, b < m → 0 ≤ w b) : ∀ b, 0 ≤ wZ w m b := fun b => by
  unfold wZ
  split
  · exact h b (by assumption)
  · exact Int.le_refl _
/-- the three kinds, over places -/
theorem step3 {p q : List Nat} {a s : Nat} (hn : p.Nodup) (hq : q.Nodup) (hl : q.length = p.length) (h5 : p.length ≤ 5) (ha : a < p.length) (hs : s ∉ p) : (∃ e : (Nat → Int) → Int, (∀ w : Nat → Int, (∀ b, b < p.length → 0 ≤ w b) → 0 ≤ e w) ∧ (∀ w, lstC w (p.set a s) q = lstC w p q + e w) ∧ (gn (gOf p q) a = a ∨ ((∀ b, b < p.length → a ∉ cy (gOf p q) b) ∧ gn (gOf (p.set a s) q) a ≠ a))) ∨ (gn (gOf (p.set a s) q) a = a ∧ gn (gOf p q) a ≠ a ∧ ∀ w, lstC w (p.set a s) q = lstC w p q - w a) ∨ (gn (gOf (p.set a s) q) a ≠ a ∧ ∃ b, b < p.length ∧ a ∈ cy (gOf p q) b ∧ ∀ w, lstC w (p.set a s) q = lstC w p q - ml w (cy (gOf p q) b)) := by
  obtain ⟨c, hc, e⟩ := gOf_step hn hq hl h5 ha hs
  have hok := gOf_ok (p := p) hq hl h5
  have hlen : (p.set a s).length = p.length := List.length_set ..
  have hok' := gOf_ok (p := p.set a s) hq (by rw [hlen]; exact hl) (by rw [hlen]; exact h5)
  rw [hlen] at hok'
  have hn' : (p.set a s).Nodup := by
    have h2 : ∀ x ∈ p, x < p.foldr (fun a b => a + b) s + 1 := by
      have : ∀ (l : List Nat) (z : Nat), z ≤ l.foldr (fun a b => a + b) z ∧ ∀ t ∈ l, t ≤ l.foldr (fun a b => a + b) z := by
        intro l
        induction l with
        | nil => intro z; exact ⟨Nat.le_refl _, fun t h => by cases h⟩
        | cons x l ih =>
          intro z
          have h1 := ih z
          rw [List.foldr_cons]
          refine ⟨by omega, fun t ht => ?_⟩
          rcases List.mem_cons.mp ht with rfl | ht
          · omega
          · have := h1.2 t ht; omega
      intro x hx
      have := (this p s).2 x hx
      omega
    have h3 : s < p.foldr (fun a b => a + b) s + 1 := by
      have : ∀ (l : List Nat) (z : Nat), z ≤ l.foldr (fun a b => a + b) z := by
        intro l
        induction l with
        | nil => intro z; exact Nat.le_refl _
        | cons x l ih => intro z; have := ih z; rw [List.foldr_cons]; omega
      have := this p s
      omega
    exact (set_ok ⟨h2, hn⟩ h3 hs).2
  have hC : ∀ w, lstC w p q = lstG w (gOf p q) p.length := fun w => lstC_g hn h5
  have hC' : ∀ w, lstC w (p.set a s) q = lstG w (gst p.length (gOf p q) a c) p.length := fun w => by
    rw [lstC_g hn' (by rw [hlen]; exact h5), hlen, e]
  rw [e]
  rw [e] at hok'
  rcases three hok h5 ha (hc.imp (fun z => z.1) (fun z => ⟨z.1, z.2.1⟩)) with ⟨f, f1, f2, f3⟩ | ⟨f1, f2, f3⟩ | ⟨f1, b, f2, f3, f4⟩
  · refine Or.inl ⟨fun w => f (wZ w p.length), fun w hw => f1 _ (wZ_nn hw), fun w => ?_, f3⟩
    rw [hC, hC', lstG_cong (w := w) (w' := wZ w p.length) hok (fun b hb => (wZ_in hb).symm), lstG_cong (w := w) (w' := wZ w p.length) hok' (fun b hb => (wZ_in hb).symm)]
    exact f2 _
  · exact Or.inr (Or.inl ⟨f1, f2, fun w => by rw [hC, hC']; exact f3 w⟩)
  · exact Or.inr (Or.inr ⟨f1, b, f2, f3, fun w => by rw [hC, hC']; exact f4 w⟩)
theorem step_le {w : Nat → Int} {p q : List Nat} {a s : Nat} (hn : p.Nodup) (hq : q.Nodup) (hl : q.length = p.length) (h5 : p.length ≤ 5) (ha : a < p.length) (hs : s ∉ p) (hw : ∀ b, b < p.length → 0 ≤ w b) : lstC w p q ≤ lstC w (p.set a s) q + w a := by
  have hwa := hw a ha
  rcases step3 hn hq hl h5 ha hs with ⟨f, f1, f2, -⟩ | ⟨-, -, f3⟩ | ⟨-, b, -, f3, f4⟩
  · have := f1 w hw
    rw [f2]; omega
  · rw [f3]; omega
  · have := ml_le (w := w) f3
    rw [f4]; omega
theorem step_one {w : Nat → Int} {p q : List Nat} {a s : Nat} (hn : p.Nodup) (hq : q.Nodup) (hl : q.length = p.length) (h5 : p.length ≤ 5) (ha : a < p.length) (hs : s ∉ p) (hw : ∀ b, b < p.length → 1 ≤ w b) (he : lstC w (p.set a s) q = lstC w p q - w a) : lstC (fun _ => 1) (p.set a s) q = lstC (fun _ => 1) p q - 1 := by
  have hwa := hw a ha
  rcases step3 hn hq hl h5 ha hs with ⟨f, f1, f2, -⟩ | ⟨-, -, f3⟩ | ⟨-, b, -, f3, f4⟩
  · have := f1 w (fun b hb => by have := hw b hb; omega)
    rw [f2] at he
    omega
  · exact f3 _
  · rw [f4, ml_one, if_neg]
    intro z
    rw [z] at f3
    cases f3
theorem lstC_lin (w : Nat → Int) {p q : List Nat} (hn : p.Nodup) (h5 : p.length ≤ 5) : lstC (w3 w) p q = 1000 * lstC w p q + lstC (fun _ => 1) p q := by
  rw [lstC_g hn h5, lstC_g hn h5, lstC_g hn h5]
  exact lstG_lin w _ _
