/-! ===== moves: more of the loops, looked through ===== -/
/-- where everybody's aim is taken and not all are there, there is a loop; loops have nobody in common, and nobody in place; there are not many -/
def chk2 (m : Nat) (g : List Nat) : Bool :=
  let C := cyOf g m
  ((List.range m).any (fun b => gn g b == 9) || (List.range m).all (fun b => gn g b == b) || C.any (fun l => !l.isEmpty)) && (List.range m).all (fun b => (C.getD b []).all (fun x => !(gn g x == x)) && (List.range m).all (fun b' => b == b' || (C.getD b []).all (fun x => !(C.getD b' []).contains x))) && Nat.ble (((List.range m).filter (fun b => !(gn g b == b))).length + (C.filter (fun l => !l.isEmpty)).length) 7
theorem chk2_few : ∀ m, m < 5 → (gsP m [] m).all (chk2 m) = true := by decide +kernel
theorem chk2_0 : (gsP 5 [0] 4).all (chk2 5) = true := by decide +kernel
theorem chk2_1 : (gsP 5 [1] 4).all (chk2 5) = true := by decide +kernel
theorem chk2_2 : (gsP 5 [2] 4).all (chk2 5) = true := by decide +kernel
theorem chk2_3 : (gsP 5 [3] 4).all (chk2 5) = true := by decide +kernel
theorem chk2_4 : (gsP 5 [4] 4).all (chk2 5) = true := by decide +kernel
theorem chk2_9 : (gsP 5 [9] 4).all (chk2 5) = true := by decide +kernel
theorem chk2_ok {m : Nat} {g : List Nat} (h : okG m g) (h5 : m ≤ 5) : chk2 m g = true := by
  by_cases e : m < 5
  · have this : g.take (0 + m) ∈ gsP m [] m := gsP_mem h (by omega) (j := 0) m (by omega)
    have e0 : g.take (0 + m) = g := List.take_of_length_le (by have := h.1; omega)
    rw [e0] at this
    exact List.all_eq_true.mp (chk2_few m e) g this
  · have e5 : m = 5 := by omega
    subst e5
    have this : g.take (1 + 4) ∈ gsP 5 (g.take 1) 4 := gsP_mem h (by omega) (j := 1) 4 (by omega)
    have e0 : g.take (1 + 4) = g := List.take_of_length_le (by have := h.1; omega)
    rw [e0] at this
    have h0 := h.2.1 0 (by omega)
    have et : g.take 1 = [gn g 0] := by
      have hl := h.1
      match g, hl with
      | [x0, x1, x2, x3, x4], _ => rfl
    rw [et] at this
    generalize gn g 0 = x at *
    have hx : x = 0 ∨ x = 1 ∨ x = 2 ∨ x = 3 ∨ x = 4 ∨ x = 9 := by omega
    have fin : (gsP 5 [x] 4).all (chk2 5) = true → chk2 5 g = true := fun w => List.all_eq_true.mp w g this
    apply fin
    clear fin this et
    rcases hx with rfl | rfl | rfl | rfl | rfl | rfl
    · exact chk2_0
    · exact chk2_1
    · exact chk2_2
    · exact chk2_3
    · exact chk2_4
    · exact chk2_9
