/-! ===== moves: some step saves what it weighs; how many steps at most ===== -/
theorem lstC_self (w : Nat → Int) (q : List Nat) : lstC w q q = 0 := by
  have h1 : mvL w q q = 0 := sumF_zero (fun i hi => by rw [if_pos rfl])
  have h2 : sumF (aswL w q q) q.length = 0 := sumF_zero (fun i hi => by
    unfold aswL aswF
    rw [if_pos rfl])
  unfold lstC
  omega
theorem pg_ext {p q : List Nat} (hl : q.length = p.length) (h : ∀ b, b < p.length → pg p b = pg q b) : p = q := by
  refine List.ext_getElem hl.symm (fun i hi hi' => ?_)
  have := h i hi
  rw [pg_eq hi, pg_eq hi'] at this
  exact this
theorem sumF_cnt (P : Nat → Bool) : ∀ m, sumF (fun b => if P b = true then 0 else 1) m = (((List.range m).filter (fun b => !P b)).length : Int)
  | 0 => rfl
  | m + 1 => by
    rw [sumF_succ, sumF_cnt P m, List.range_succ, List.filter_append, List.length_append]
    cases h : P m <;> simp [h]
theorem len_map_filter {α β : Type} (f : α → β) (P : β → Bool) : ∀ l : List α, ((l.map f).filter P).length = (l.filter (fun x => P (f x))).length
  | [] => rfl
  | x :: l => by
    rw [List.map_cons, List.filter_cons, List.filter_cons]
    cases h : P (f x) <;> simp [len_map_filter f P l]
theorem lstC_one {p q : List Nat} (hn : p.Nodup) (hq : q.Nodup) (hl : q.length = p.length) (h5 : p.length ≤ 5) : 0 ≤ lstC (fun _ => 1) p q ∧ lstC (fun _ => 1) p q ≤ 7 := by
  have hok := gOf_ok (p := p) hq hl h5
  have hc := chk2_ok hok h5
  rw [lstC_g hn h5]
  generalize gOf p q = g at *
  generalize p.length = m at *
  have h7 : ((List.range m).filter (fun b => !(gn g b == b))).length + ((cyOf g m).filter (fun l => !l.isEmpty)).length ≤ 7 := by
    unfold chk2 at hc
    simp only [Bool.and_eq_true] at hc
    exact Nat.le_of_ble_eq_true hc.2
  rw [lstG_eq]
  have e1 : sumF (plc (fun _ => 1) g) m = (((List.range m).filter (fun b => !(gn g b == b))).length : Int) := by
    rw [← sumF_cnt (fun b => gn g b == b)]
    refine sumF_cong (fun b hb => ?_)
    unfold plc
    by_cases z : gn g b = b
    · rw [if_pos z, if_pos (beq_iff_eq.mpr z)]
    · rw [if_neg z, if_neg (fun y => z (beq_iff_eq.mp y))]
  have e2 : sumF (fun b => ml (fun _ => 1) (cy g b)) m = (((cyOf g m).filter (fun l => !l.isEmpty)).length : Int) := by
    unfold cyOf
    rw [len_map_filter, ← sumF_cnt (fun b => (cy g b).isEmpty)]
    refine sumF_cong (fun b hb => ?_)
    show ml (fun _ => 1) (cy g b) = _
    rw [ml_one]
    cases z : cy g b with
    | nil => simp
    | cons x t => simp
  rw [e1, e2]
  omega
theorem lstC_pos {w : Nat → Int} {p q : List Nat} (hl : q.length = p.length) (hne : p ≠ q) (hn : p.Nodup) (h5 : p.length ≤ 5) (hq : q.Nodup) (hw : ∀ b, b < p.length → 1 ≤ w b) : 1 ≤ lstC w p q := by
  obtain ⟨b, hb, hbe⟩ : ∃ b, b < p.length ∧ pg p b ≠ pg q b := Classical.byContradiction (fun z => hne (pg_ext hl (fun b hb => Classical.byContradiction (fun y => z ⟨b, hb, y⟩))))
  have hok := gOf_ok (p := p) hq hl h5
  rw [lstC_g hn h5, lstG_cong (w := w) (w' := wZ w p.length) hok (fun b hb => (wZ_in hb).symm), lstG_eq]
  have h0 : ∀ b, 0 ≤ wZ w p.length b := wZ_nn (fun b hb => by have := hw b hb; omega)
  have h2 : 0 ≤ sumF (fun b => ml (wZ w p.length) (cy (gOf p q) b)) p.length := by
    have : ∀ n, 0 ≤ sumF (fun b => ml (wZ w p.length) (cy (gOf p q) b)) n := by
      intro n
      induction n with
      | zero => exact Int.le_refl _
      | succ n ih => rw [sumF_succ]; have := ml_nn h0 (cy (gOf p q) n); omega
    exact this _
  have h3 : ∀ n, 0 ≤ sumF (plc (wZ w p.length) (gOf p q)) n ∧ (b < n → 1 ≤ sumF (plc (wZ w p.length) (gOf p q)) n) := by
    intro n
    induction n with
    | zero => exact ⟨Int.le_refl _, fun h => by omega⟩
    | succ n ih =>
      rw [sumF_succ]
      have hp : 0 ≤ plc (wZ w p.length) (gOf p q) n := by
        unfold plc
        split
        · omega
        · exact h0 n
      refine ⟨by omega, fun h => ?_⟩
      by_cases e : b = n
      · have : plc (wZ w p.length) (gOf p q) n = w b := by
          unfold plc
          rw [if_neg (fun z => hbe ((gOf_in hn hb h5).mpr (by rw [← e] at z; exact z))), ← e, wZ_in hb]
        have := hw b hb
        omega
      · have := ih.2 (by omega)
        omega
  have := (h3 p.length).2 hb
  omega
/-- the step that saves all that it weighs -/
theorem attain {w : Nat → Int} {n : Nat} {p q : List Nat} (hp : okP n p) (hq : okP n q) (hl : q.length = p.length) (h5 : p.length ≤ 5) (hn : p.length < n) (hne : p ≠ q) : ∃ a s, a < p.length ∧ s < n ∧ s ∉ p ∧ lstC w (p.set a s) q = lstC w p q - w a := by
  have hok := gOf_ok (p := p) hq.2 hl h5
  by_cases h9 : ∃ a, a < p.length ∧ gn (gOf p q) a = 9
  · obtain ⟨a, ha, e⟩ := h9
    have hs : pg q a ∉ p := by
      rcases gOf_lt (q := q) ha h5 with ⟨-, -, h, -⟩ | ⟨h, -⟩
      · exact absurd e h
      · exact h
    have hsn := hq.1 _ (pg_mem (p := q) (i := a) (by omega))
    refine ⟨a, pg q a, ha, hsn, hs, ?_⟩
    have hset := set_ok (a := a) hp hsn hs
    have hin : gn (gOf (p.set a (pg q a)) q) a = a := (gOf_in hset.2 (by rw [List.length_set]; exact ha) (by rw [List.length_set]; exact h5)).mp (by rw [pg_set ha, if_pos rfl])
    rcases step3 hp.2 hq.2 hl h5 ha hs with ⟨f, -, -, h | ⟨-, h⟩⟩ | ⟨-, -, h⟩ | ⟨h, -⟩
    · omega
    · exact absurd hin h
    · exact h w
    · exact absurd hin h
  · obtain ⟨s, hs⟩ := nf_free hn
    obtain ⟨-, hs1, hs2⟩ := nf_some hs
    have hc := chk2_ok hok h5
    unfold chk2 at hc
    simp only [Bool.and_eq_true, Bool.or_eq_true] at hc
    obtain ⟨⟨hc1, hc2⟩, -⟩ := hc
    have getC : ∀ b, b < p.length → (cyOf (gOf p q) p.length).getD b [] = cy (gOf p q) b := fun b hb => by simp [cyOf, List.getD, hb]
    obtain ⟨b, hb, hbne⟩ : ∃ b, b < p.length ∧ cy (gOf p q) b ≠ [] := by
      rcases hc1 with (h | h) | h
      · obtain ⟨b, hb, e⟩ := List.any_eq_true.mp h
        exact absurd ⟨b, List.mem_range.mp hb, beq_iff_eq.mp e⟩ h9
      · refine absurd (pg_ext hl (fun b hb => ?_)) hne
        exact (gOf_in hp.2 hb h5).mpr (beq_iff_eq.mp (List.all_eq_true.mp h b (List.mem_range.mpr hb)))
      · obtain ⟨l, hl2, e⟩ := List.any_eq_true.mp h
        obtain ⟨b, hb, rfl⟩ := List.mem_map.mp hl2
        refine ⟨b, List.mem_range.mp hb, fun z => ?_⟩
        rw [z] at e
        cases e
    obtain ⟨a, ha, hml⟩ := ml_at (w := w) hbne
    have ham := cy_lt hok hb a ha
    have hc3 : ∀ b, b < p.length → (∀ x ∈ cy (gOf p q) b, gn (gOf p q) x ≠ x) ∧ ∀ b', b' < p.length → b ≠ b' → ∀ x ∈ cy (gOf p q) b, x ∉ cy (gOf p q) b' := fun b hb => by
      have h := List.all_eq_true.mp hc2 b (List.mem_range.mpr hb)
      rw [Bool.and_eq_true, getC b hb] at h
      refine ⟨fun x hx e => ?_, fun b' hb' hne x hx hx' => ?_⟩
      · have := List.all_eq_true.mp h.1 x hx
        rw [beq_iff_eq.mpr e] at this
        cases this
      · have := List.all_eq_true.mp h.2 b' (List.mem_range.mpr hb')
        rw [getC b' hb', Bool.or_eq_true] at this
        rcases this with z | z
        · exact hne (beq_iff_eq.mp z)
        · have := List.all_eq_true.mp z x hx
          rw [List.contains_iff_mem.mpr hx'] at this
          cases this
    refine ⟨a, s, ham, hs1, hs2, ?_⟩
    rcases step3 hp.2 hq.2 hl h5 ham hs2 with ⟨f, -, -, h | ⟨h, -⟩⟩ | ⟨-, -, h⟩ | ⟨-, b', hb', h, h2⟩
    · exact absurd h ((hc3 b hb).1 a ha)
    · exact absurd ha (h b hb)
    · exact h w
    · have e : b = b' := Classical.byContradiction (fun z => (hc3 b hb).2 b' hb' z a ha h)
      rw [h2, ← e, hml]
