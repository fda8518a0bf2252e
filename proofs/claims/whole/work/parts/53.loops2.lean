/-! ===== all such lists are among those looked through ===== -/
def okG (m : Nat) (g : List Nat) : Prop := g.length = m ∧ (∀ b, b < m → gn g b < m ∨ gn g b = 9) ∧ ∀ b b', b < m → b' < m → b ≠ b' → gn g b = gn g b' → gn g b = 9
theorem gsP_mem {m : Nat} {g : List Nat} (h : okG m g) (h9 : m ≤ 9) {j : Nat} : ∀ k, j + k ≤ m → g.take (j + k) ∈ gsP m (g.take j) k
  | 0, _ => List.mem_singleton.mpr rfl
  | k + 1, hk => by
    have ih := gsP_mem h h9 (j := j) k (by omega)
    have hi : j + k < g.length := by rw [h.1]; omega
    refine List.mem_flatMap.mpr ⟨_, ih, List.mem_map.mpr ⟨g[j + k], ?_, ?_⟩⟩
    · have e : gn g (j + k) = g[j + k] := by simp [gn, List.getD, hi]
      rcases h.2.1 (j + k) (by omega) with q | q
      · refine List.mem_append_left _ (List.mem_filter.mpr ⟨List.mem_range.mpr (by omega), ?_⟩)
        cases hc : (g.take (j + k)).contains g[j + k] with
        | false => rfl
        | true =>
          obtain ⟨b, hb, hbe⟩ := List.getElem_of_mem (List.contains_iff_mem.mp hc)
          rw [List.length_take] at hb
          rw [List.getElem_take] at hbe
          have eb : gn g b = g[b] := by simp [gn, List.getD, show b < g.length by omega]
          have := h.2.2 b (j + k) (by omega) (by omega) (by omega) (by rw [eb, e, hbe])
          rw [eb, hbe, ← e] at this
          omega
      · refine List.mem_append_right _ ?_
        rw [← e, q]
        simp
    · rw [show j + (k + 1) = (j + k) + 1 by omega, List.take_add_one, List.getElem?_eq_getElem hi]
      rfl
theorem chk_ok {m : Nat} {g : List Nat} (h : okG m g) (h5 : m ≤ 5) : chkG m g = true := by
  by_cases e : m < 5
  · have this : g.take (0 + m) ∈ gsP m [] m := gsP_mem h (by omega) (j := 0) m (by omega)
    have e0 : g.take (0 + m) = g := List.take_of_length_le (by have := h.1; omega)
    rw [e0] at this
    exact List.all_eq_true.mp (chk_few m e) g this
  · have e5 : m = 5 := by omega
    subst e5
    have this : g.take (2 + 3) ∈ gsP 5 (g.take 2) 3 := gsP_mem h (by omega) (j := 2) 3 (by omega)
    have e0 : g.take (2 + 3) = g := List.take_of_length_le (by have := h.1; omega)
    rw [e0] at this
    have h0 := h.2.1 0 (by omega)
    have h1 := h.2.1 1 (by omega)
    have hd := h.2.2 0 1 (by omega) (by omega) (by omega)
    have et : g.take 2 = [gn g 0, gn g 1] := by
      have hl := h.1
      match g, hl with
      | [x0, x1, x2, x3, x4], _ => rfl
    rw [et] at this
    generalize gn g 0 = x at *
    generalize gn g 1 = y at *
    have hx : x = 0 ∨ x = 1 ∨ x = 2 ∨ x = 3 ∨ x = 4 ∨ x = 9 := by omega
    have hy : y = 0 ∨ y = 1 ∨ y = 2 ∨ y = 3 ∨ y = 4 ∨ y = 9 := by omega
    have fin : (gsP 5 [x, y] 3).all (chkG 5) = true → chkG 5 g = true := fun w => List.all_eq_true.mp w g this
    apply fin
    clear fin this et
    rcases hx with rfl | rfl | rfl | rfl | rfl | rfl <;> rcases hy with rfl | rfl | rfl | rfl | rfl | rfl
    · exact absurd (hd rfl) (by omega)
    · exact chk_01
    · exact chk_02
    · exact chk_03
    · exact chk_04
    · exact chk_09
    · exact chk_10
    · exact absurd (hd rfl) (by omega)
    · exact chk_12
    · exact chk_13
    · exact chk_14
    · exact chk_19
    · exact chk_20
    · exact chk_21
    · exact absurd (hd rfl) (by omega)
    · exact chk_23
    · exact chk_24
    · exact chk_29
    · exact chk_30
    · exact chk_31
    · exact chk_32
    · exact absurd (hd rfl) (by omega)
    · exact chk_34
    · exact chk_39
    · exact chk_40
    · exact chk_41
    · exact chk_42
    · exact chk_43
    · exact absurd (hd rfl) (by omega)
    · exact chk_49
    · exact chk_90
    · exact chk_91
    · exact chk_92
    · exact chk_93
    · exact chk_94
    · exact chk_99
