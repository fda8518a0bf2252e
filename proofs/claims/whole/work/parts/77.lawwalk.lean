/-! ===== the law: its loop's head, its cases ===== -/
set_option maxRecDepth 100000 in
set_option maxHeartbeats 4000000 in
theorem rL_law_18 {L : Nat} {f : Nat → Int} {x3 : Int} {σ : Mem} {Q : Int → Mem → Prop} (h : ((inR (((L : Nat) : Int) - 5)) ∧ (((((L : Nat) : Int) - 5) < x3 → Q 1 σ) ∧ (x3 ≤ (((L : Nat) : Int) - 5) → ((0 ≤ x3) ∧ (((x3 < (L : Int)) ∧ (((iand (f (x3).toNat) 31) < 0 ∨ 24 < (iand (f (x3).toNat) 31) → ((inR (x3 + 5)) ∧ (GO (some (L, f)) mL_law 18 [some (.inr 95), some (.inr 0), some (.inr 73), some (.inl (x3 + 5))] [] σ Q))) ∧ ((iand (f (x3).toNat) 31) = 0 → GO (some (L, f)) mL_law 148 [some (.inr 95), some (.inr 0), some (.inr 73), some (.inl x3)] [] σ Q) ∧ ((iand (f (x3).toNat) 31) = 1 → GO (some (L, f)) mL_law 207 [some (.inr 95), some (.inr 0), some (.inr 73), some (.inl x3)] [] σ Q) ∧ ((iand (f (x3).toNat) 31) = 2 → GO (some (L, f)) mL_law 240 [some (.inr 95), some (.inr 0), some (.inr 73), some (.inl x3)] [] σ Q) ∧ ((iand (f (x3).toNat) 31) = 3 → GO (some (L, f)) mL_law 299 [some (.inr 95), some (.inr 0), some (.inr 73), some (.inl x3)] [] σ Q) ∧ ((iand (f (x3).toNat) 31) = 4 → GO (some (L, f)) mL_law 332 [some (.inr 95), some (.inr 0), some (.inr 73), some (.inl x3)] [] σ Q) ∧ ((iand (f (x3).toNat) 31) = 5 → GO (some (L, f)) mL_law 355 [some (.inr 95), some (.inr 0), some (.inr 73), some (.inl x3)] [] σ Q) ∧ ((iand (f (x3).toNat) 31) = 6 → GO (some (L, f)) mL_law 378 [some (.inr 95), some (.inr 0), some (.inr 73), some (.inl x3)] [] σ Q) ∧ ((iand (f (x3).toNat) 31) = 7 → GO (some (L, f)) mL_law 391 [some (.inr 95), some (.inr 0), some (.inr 73), some (.inl x3)] [] σ Q) ∧ ((iand (f (x3).toNat) 31) = 8 → GO (some (L, f)) mL_law 444 [some (.inr 95), some (.inr 0), some (.inr 73), some (.inl x3)] [] σ Q) ∧ ((iand (f (x3).toNat) 31) = 9 → GO (some (L, f)) mL_law 477 [some (.inr 95), some (.inr 0), some (.inr 73), some (.inl x3)] [] σ Q) ∧ ((iand (f (x3).toNat) 31) = 10 → GO (some (L, f)) mL_law 546 [some (.inr 95), some (.inr 0), some (.inr 73), some (.inl x3)] [] σ Q) ∧ ((iand (f (x3).toNat) 31) = 11 → GO (some (L, f)) mL_law 569 [some (.inr 95), some (.inr 0), some (.inr 73), some (.inl x3)] [] σ Q) ∧ ((iand (f (x3).toNat) 31) = 12 → GO (some (L, f)) mL_law 592 [some (.inr 95), some (.inr 0), some (.inr 73), some (.inl x3)] [] σ Q) ∧ ((iand (f (x3).toNat) 31) = 13 → GO (some (L, f)) mL_law 605 [some (.inr 95), some (.inr 0), some (.inr 73), some (.inl x3)] [] σ Q) ∧ ((iand (f (x3).toNat) 31) = 14 → GO (some (L, f)) mL_law 628 [some (.inr 95), some (.inr 0), some (.inr 73), some (.inl x3)] [] σ Q) ∧ ((iand (f (x3).toNat) 31) = 15 → GO (some (L, f)) mL_law 651 [some (.inr 95), some (.inr 0), some (.inr 73), some (.inl x3)] [] σ Q) ∧ ((iand (f (x3).toNat) 31) = 16 → GO (some (L, f)) mL_law 674 [some (.inr 95), some (.inr 0), some (.inr 73), some (.inl x3)] [] σ Q) ∧ ((iand (f (x3).toNat) 31) = 17 → GO (some (L, f)) mL_law 697 [some (.inr 95), some (.inr 0), some (.inr 73), some (.inl x3)] [] σ Q) ∧ ((iand (f (x3).toNat) 31) = 18 → GO (some (L, f)) mL_law 720 [some (.inr 95), some (.inr 0), some (.inr 73), some (.inl x3)] [] σ Q) ∧ ((iand (f (x3).toNat) 31) = 19 → GO (some (L, f)) mL_law 743 [some (.inr 95), some (.inr 0), some (.inr 73), some (.inl x3)] [] σ Q) ∧ ((iand (f (x3).toNat) 31) = 20 → GO (some (L, f)) mL_law 766 [some (.inr 95), some (.inr 0), some (.inr 73), some (.inl x3)] [] σ Q) ∧ ((iand (f (x3).toNat) 31) = 21 → GO (some (L, f)) mL_law 789 [some (.inr 95), some (.inr 0), some (.inr 73), some (.inl x3)] [] σ Q) ∧ ((iand (f (x3).toNat) 31) = 22 → GO (some (L, f)) mL_law 822 [some (.inr 95), some (.inr 0), some (.inr 73), some (.inl x3)] [] σ Q) ∧ ((iand (f (x3).toNat) 31) = 23 → GO (some (L, f)) mL_law 845 [some (.inr 95), some (.inr 0), some (.inr 73), some (.inl x3)] [] σ Q) ∧ ((iand (f (x3).toNat) 31) = 24 → GO (some (L, f)) mL_law 878 [some (.inr 95), some (.inr 0), some (.inr 73), some (.inl x3)] [] σ Q))))))))) : GO (some (L, f)) mL_law 18 [some (.inr 95), some (.inr 0), some (.inr 73), some (.inl x3)] [] σ Q := by
  refine g_iload_n dL_law_18 rfl rfl ?_
  refine g_aload_n dL_law_19 rfl rfl ?_
  refine g_slen rfl dL_law_20 ?_
  refine g_iconst dL_law_21 (by decide) ?_
  obtain ⟨p1, h⟩ := h
  refine g_isub dL_law_22 p1 ?_
  refine g_icmp_gt (tgt := 907) dL_law_23 (by decide) (fun c2 => ?_) (fun c2 => ?_)
  · have h := h.1 c2
    refine g_iconst dL_law_907 (by decide) ?_
    exact g_zreturn rfl dL_law_908 (by decide) h
  · have h := h.2 c2
    refine g_aload_n dL_law_26 rfl rfl ?_
    refine g_iload_n dL_law_27 rfl rfl ?_
    obtain ⟨p3, h⟩ := h
    obtain ⟨p4, h⟩ := h
    refine g_sld rfl p3 p4 dL_law_28 ?_
    refine g_bipush dL_law_29 (by decide) (by decide) ?_
    refine g_iand dL_law_31 ?_
    refine g_table dL_law_32 (fun c9 => ⟨901, by decide, ?_⟩) (fun c8 c9 => ?_)
    · have h := h.1 c9
      obtain ⟨p5, h⟩ := h
      refine g_iinc (ls' := [some (.inr 95), some (.inr 0), some (.inr 73), some (.inl (x3 + 5))]) dL_law_901 (by decide) rfl p5 rfl ?_
      refine g_goto (tgt := 18) dL_law_904 (by decide) ?_
      exact h
    · have h := h.2
      rcases (show (iand (f (x3).toNat) 31) = 0 ∨ (iand (f (x3).toNat) 31) = 1 ∨ (iand (f (x3).toNat) 31) = 2 ∨ (iand (f (x3).toNat) 31) = 3 ∨ (iand (f (x3).toNat) 31) = 4 ∨ (iand (f (x3).toNat) 31) = 5 ∨ (iand (f (x3).toNat) 31) = 6 ∨ (iand (f (x3).toNat) 31) = 7 ∨ (iand (f (x3).toNat) 31) = 8 ∨ (iand (f (x3).toNat) 31) = 9 ∨ (iand (f (x3).toNat) 31) = 10 ∨ (iand (f (x3).toNat) 31) = 11 ∨ (iand (f (x3).toNat) 31) = 12 ∨ (iand (f (x3).toNat) 31) = 13 ∨ (iand (f (x3).toNat) 31) = 14 ∨ (iand (f (x3).toNat) 31) = 15 ∨ (iand (f (x3).toNat) 31) = 16 ∨ (iand (f (x3).toNat) 31) = 17 ∨ (iand (f (x3).toNat) 31) = 18 ∨ (iand (f (x3).toNat) 31) = 19 ∨ (iand (f (x3).toNat) 31) = 20 ∨ (iand (f (x3).toNat) 31) = 21 ∨ (iand (f (x3).toNat) 31) = 22 ∨ (iand (f (x3).toNat) 31) = 23 ∨ (iand (f (x3).toNat) 31) = 24 by omega) with c7 | c7 | c7 | c7 | c7 | c7 | c7 | c7 | c7 | c7 | c7 | c7 | c7 | c7 | c7 | c7 | c7 | c7 | c7 | c7 | c7 | c7 | c7 | c7 | c7
      · refine ⟨116, 148, by rw [c7]; rfl, by decide, ?_⟩
        have h := h.1 c7
        exact h
      · refine ⟨175, 207, by rw [c7]; rfl, by decide, ?_⟩
        have h := h.2.1 c7
        exact h
      · refine ⟨208, 240, by rw [c7]; rfl, by decide, ?_⟩
        have h := h.2.2.1 c7
        exact h
      · refine ⟨267, 299, by rw [c7]; rfl, by decide, ?_⟩
        have h := h.2.2.2.1 c7
        exact h
      · refine ⟨300, 332, by rw [c7]; rfl, by decide, ?_⟩
        have h := h.2.2.2.2.1 c7
        exact h
      · refine ⟨323, 355, by rw [c7]; rfl, by decide, ?_⟩
        have h := h.2.2.2.2.2.1 c7
        exact h
      · refine ⟨346, 378, by rw [c7]; rfl, by decide, ?_⟩
        have h := h.2.2.2.2.2.2.1 c7
        exact h
      · refine ⟨359, 391, by rw [c7]; rfl, by decide, ?_⟩
        have h := h.2.2.2.2.2.2.2.1 c7
        exact h
      · refine ⟨412, 444, by rw [c7]; rfl, by decide, ?_⟩
        have h := h.2.2.2.2.2.2.2.2.1 c7
        exact h
      · refine ⟨445, 477, by rw [c7]; rfl, by decide, ?_⟩
        have h := h.2.2.2.2.2.2.2.2.2.1 c7
        exact h
      · refine ⟨514, 546, by rw [c7]; rfl, by decide, ?_⟩
        have h := h.2.2.2.2.2.2.2.2.2.2.1 c7
        exact h
      · refine ⟨537, 569, by rw [c7]; rfl, by decide, ?_⟩
        have h := h.2.2.2.2.2.2.2.2.2.2.2.1 c7
        exact h
      · refine ⟨560, 592, by rw [c7]; rfl, by decide, ?_⟩
        have h := h.2.2.2.2.2.2.2.2.2.2.2.2.1 c7
        exact h
      · refine ⟨573, 605, by rw [c7]; rfl, by decide, ?_⟩
        have h := h.2.2.2.2.2.2.2.2.2.2.2.2.2.1 c7
        exact h
      · refine ⟨596, 628, by rw [c7]; rfl, by decide, ?_⟩
        have h := h.2.2.2.2.2.2.2.2.2.2.2.2.2.2.1 c7
        exact h
      · refine ⟨619, 651, by rw [c7]; rfl, by decide, ?_⟩
        have h := h.2.2.2.2.2.2.2.2.2.2.2.2.2.2.2.1 c7
        exact h
      · refine ⟨642, 674, by rw [c7]; rfl, by decide, ?_⟩
        have h := h.2.2.2.2.2.2.2.2.2.2.2.2.2.2.2.2.1 c7
        exact h
      · refine ⟨665, 697, by rw [c7]; rfl, by decide, ?_⟩
        have h := h.2.2.2.2.2.2.2.2.2.2.2.2.2.2.2.2.2.1 c7
        exact h
      · refine ⟨688, 720, by rw [c7]; rfl, by decide, ?_⟩
        have h := h.2.2.2.2.2.2.2.2.2.2.2.2.2.2.2.2.2.2.1 c7
        exact h
      · refine ⟨711, 743, by rw [c7]; rfl, by decide, ?_⟩
        have h := h.2.2.2.2.2.2.2.2.2.2.2.2.2.2.2.2.2.2.2.1 c7
        exact h
      · refine ⟨734, 766, by rw [c7]; rfl, by decide, ?_⟩
        have h := h.2.2.2.2.2.2.2.2.2.2.2.2.2.2.2.2.2.2.2.2.1 c7
        exact h
      · refine ⟨757, 789, by rw [c7]; rfl, by decide, ?_⟩
        have h := h.2.2.2.2.2.2.2.2.2.2.2.2.2.2.2.2.2.2.2.2.2.1 c7
        exact h
      · refine ⟨790, 822, by rw [c7]; rfl, by decide, ?_⟩
        have h := h.2.2.2.2.2.2.2.2.2.2.2.2.2.2.2.2.2.2.2.2.2.2.1 c7
        exact h
      · refine ⟨813, 845, by rw [c7]; rfl, by decide, ?_⟩
        have h := h.2.2.2.2.2.2.2.2.2.2.2.2.2.2.2.2.2.2.2.2.2.2.2.1 c7
        exact h
      · refine ⟨846, 878, by rw [c7]; rfl, by decide, ?_⟩
        have h := h.2.2.2.2.2.2.2.2.2.2.2.2.2.2.2.2.2.2.2.2.2.2.2.2 c7
        exact h
set_option maxRecDepth 100000 in
set_option maxHeartbeats 4000000 in
theorem rL_law_148 {L : Nat} {f : Nat → Int} {x3 : Int} {σ : Mem} {Q : Int → Mem → Prop} (h : ((inR (x3 + 1)) ∧ (((0 ≤ (x3 + 1)) ∧ ((((x3 + 1) < (L : Int)) ∧ (((inR (x3 + 2)) ∧ (((0 ≤ (x3 + 2)) ∧ ((((x3 + 2) < (L : Int)) ∧ (((inR (x3 + 3)) ∧ (((0 ≤ (x3 + 3)) ∧ ((((x3 + 3) < (L : Int)) ∧ (((f ((x3 + 3)).toNat) = 0 → CM mX10_column [.inr 0, .inl (f ((x3 + 1)).toNat), .inl (f ((x3 + 2)).toNat), .inl 0] σ (fun v11 σ12 => ((f ((x3 + 3)).toNat) = 0 → CM mX11_column [.inr 73, .inl (f ((x3 + 1)).toNat), .inl (f ((x3 + 2)).toNat), .inl 0] σ12 (fun v15 σ16 => (v11 = v15 → ((inR (x3 + 5)) ∧ (GO (some (L, f)) mL_law 18 [some (.inr 95), some (.inr 0), some (.inr 73), some (.inl (x3 + 5))] [] σ16 Q))) ∧ (v11 ≠ v15 → Q 0 σ16))) ∧ ((f ((x3 + 3)).toNat) ≠ 0 → CM mX11_column [.inr 73, .inl (f ((x3 + 1)).toNat), .inl (f ((x3 + 2)).toNat), .inl 1] σ12 (fun v20 σ21 => (v11 = v20 → ((inR (x3 + 5)) ∧ (GO (some (L, f)) mL_law 18 [some (.inr 95), some (.inr 0), some (.inr 73), some (.inl (x3 + 5))] [] σ21 Q))) ∧ (v11 ≠ v20 → Q 0 σ21))))) ∧ ((f ((x3 + 3)).toNat) ≠ 0 → CM mX10_column [.inr 0, .inl (f ((x3 + 1)).toNat), .inl (f ((x3 + 2)).toNat), .inl 1] σ (fun v25 σ26 => ((f ((x3 + 3)).toNat) = 0 → CM mX11_column [.inr 73, .inl (f ((x3 + 1)).toNat), .inl (f ((x3 + 2)).toNat), .inl 0] σ26 (fun v29 σ30 => (v25 = v29 → ((inR (x3 + 5)) ∧ (GO (some (L, f)) mL_law 18 [some (.inr 95), some (.inr 0), some (.inr 73), some (.inl (x3 + 5))] [] σ30 Q))) ∧ (v25 ≠ v29 → Q 0 σ30))) ∧ ((f ((x3 + 3)).toNat) ≠ 0 → CM mX11_column [.inr 73, .inl (f ((x3 + 1)).toNat), .inl (f ((x3 + 2)).toNat), .inl 1] σ26 (fun v34 σ35 => (v25 = v34 → ((inR (x3 + 5)) ∧ (GO (some (L, f)) mL_law 18 [some (.inr 95), some (.inr 0), some (.inr 73), some (.inl (x3 + 5))] [] σ35 Q))) ∧ (v25 ≠ v34 → Q 0 σ35)))))))))))))))))))))))) : GO (some (L, f)) mL_law 148 [some (.inr 95), some (.inr 0), some (.inr 73), some (.inl x3)] [] σ Q := by
  refine g_aload_n dL_law_148 rfl rfl ?_
  refine g_aload_n dL_law_149 rfl rfl ?_
  refine g_iload_n dL_law_150 rfl rfl ?_
  refine g_iconst dL_law_151 (by decide) ?_
  obtain ⟨p1, h⟩ := h
  refine g_iadd dL_law_152 p1 ?_
  obtain ⟨p2, h⟩ := h
  obtain ⟨p3, h⟩ := h
  refine g_sld rfl p2 p3 dL_law_153 ?_
  refine g_aload_n dL_law_154 rfl rfl ?_
  refine g_iload_n dL_law_155 rfl rfl ?_
  refine g_iconst dL_law_156 (by decide) ?_
  obtain ⟨p4, h⟩ := h
  refine g_iadd dL_law_157 p4 ?_
  obtain ⟨p5, h⟩ := h
  obtain ⟨p6, h⟩ := h
  refine g_sld rfl p5 p6 dL_law_158 ?_
  refine g_aload_n dL_law_159 rfl rfl ?_
  refine g_iload_n dL_law_160 rfl rfl ?_
  refine g_iconst dL_law_161 (by decide) ?_
  obtain ⟨p7, h⟩ := h
  refine g_iadd dL_law_162 p7 ?_
  obtain ⟨p8, h⟩ := h
  obtain ⟨p9, h⟩ := h
  refine g_sld rfl p8 p9 dL_law_163 ?_
  refine g_if_eq (tgt := 171) dL_law_164 (by decide) (fun c10 => ?_) (fun c10 => ?_)
  · have h := h.1 c10
    refine g_iconst dL_law_171 (by decide) ?_
    refine g_invVI (as := [.inl (f ((x3 + 1)).toNat), .inl (f ((x3 + 2)).toNat), .inl 0]) (rest := []) okX10_column mlL_13 (by decide) rfl ⟨_, _, rfl⟩ rfl ⟨Nat.le_of_ble_eq_true rfl, Nat.le_of_ble_eq_true rfl⟩ (Nat.le_of_ble_eq_true rfl) rfl dL_law_172 h (Or.inl rfl) (fun v11 σ12 e13 => ?_)
    have h := e13
    refine g_aload_n dL_law_175 rfl rfl ?_
    refine g_aload_n dL_law_176 rfl rfl ?_
    refine g_iload_n dL_law_177 rfl rfl ?_
    refine g_iconst dL_law_178 (by decide) ?_
    refine g_iadd dL_law_179 p1 ?_
    refine g_sld rfl p2 p3 dL_law_180 ?_
    refine g_aload_n dL_law_181 rfl rfl ?_
    refine g_iload_n dL_law_182 rfl rfl ?_
    refine g_iconst dL_law_183 (by decide) ?_
    refine g_iadd dL_law_184 p4 ?_
    refine g_sld rfl p5 p6 dL_law_185 ?_
    refine g_aload_n dL_law_186 rfl rfl ?_
    refine g_iload_n dL_law_187 rfl rfl ?_
    refine g_iconst dL_law_188 (by decide) ?_
    refine g_iadd dL_law_189 p7 ?_
    refine g_sld rfl p8 p9 dL_law_190 ?_
    refine g_if_eq (tgt := 198) dL_law_191 (by decide) (fun c14 => ?_) (fun c14 => ?_)
    · have h := h.1 c14
      refine g_iconst dL_law_198 (by decide) ?_
      refine g_invVI (as := [.inl (f ((x3 + 1)).toNat), .inl (f ((x3 + 2)).toNat), .inl 0]) (rest := [.inl v11]) okX11_column mlL_17 (by decide) rfl ⟨_, _, rfl⟩ rfl ⟨Nat.le_of_ble_eq_true rfl, Nat.le_of_ble_eq_true rfl⟩ (Nat.le_of_ble_eq_true rfl) rfl dL_law_199 h (Or.inl rfl) (fun v15 σ16 e17 => ?_)
      have h := e17
      refine g_icmp_eq (tgt := 901) dL_law_202 (by decide) (fun c18 => ?_) (fun c18 => ?_)
      · have h := h.1 c18
        obtain ⟨p19, h⟩ := h
        refine g_iinc (ls' := [some (.inr 95), some (.inr 0), some (.inr 73), some (.inl (x3 + 5))]) dL_law_901 (by decide) rfl p19 rfl ?_
        refine g_goto (tgt := 18) dL_law_904 (by decide) ?_
        exact h
      · have h := h.2 c18
        refine g_iconst dL_law_205 (by decide) ?_
        exact g_zreturn rfl dL_law_206 (by decide) h
    · have h := h.2 c14
      refine g_iconst dL_law_194 (by decide) ?_
      refine g_goto (tgt := 199) dL_law_195 (by decide) ?_
      refine g_invVI (as := [.inl (f ((x3 + 1)).toNat), .inl (f ((x3 + 2)).toNat), .inl 1]) (rest := [.inl v11]) okX11_column mlL_17 (by decide) rfl ⟨_, _, rfl⟩ rfl ⟨Nat.le_of_ble_eq_true rfl, Nat.le_of_ble_eq_true rfl⟩ (Nat.le_of_ble_eq_true rfl) rfl dL_law_199 h (Or.inl rfl) (fun v20 σ21 e22 => ?_)
      have h := e22
      refine g_icmp_eq (tgt := 901) dL_law_202 (by decide) (fun c23 => ?_) (fun c23 => ?_)
      · have h := h.1 c23
        obtain ⟨p24, h⟩ := h
        refine g_iinc (ls' := [some (.inr 95), some (.inr 0), some (.inr 73), some (.inl (x3 + 5))]) dL_law_901 (by decide) rfl p24 rfl ?_
        refine g_goto (tgt := 18) dL_law_904 (by decide) ?_
        exact h
      · have h := h.2 c23
        refine g_iconst dL_law_205 (by decide) ?_
        exact g_zreturn rfl dL_law_206 (by decide) h
  · have h := h.2 c10
    refine g_iconst dL_law_167 (by decide) ?_
    refine g_goto (tgt := 172) dL_law_168 (by decide) ?_
    refine g_invVI (as := [.inl (f ((x3 + 1)).toNat), .inl (f ((x3 + 2)).toNat), .inl 1]) (rest := []) okX10_column mlL_13 (by decide) rfl ⟨_, _, rfl⟩ rfl ⟨Nat.le_of_ble_eq_true rfl, Nat.le_of_ble_eq_true rfl⟩ (Nat.le_of_ble_eq_true rfl) rfl dL_law_172 h (Or.inl rfl) (fun v25 σ26 e27 => ?_)
    have h := e27
    refine g_aload_n dL_law_175 rfl rfl ?_
    refine g_aload_n dL_law_176 rfl rfl ?_
    refine g_iload_n dL_law_177 rfl rfl ?_
    refine g_iconst dL_law_178 (by decide) ?_
    refine g_iadd dL_law_179 p1 ?_
    refine g_sld rfl p2 p3 dL_law_180 ?_
    refine g_aload_n dL_law_181 rfl rfl ?_
    refine g_iload_n dL_law_182 rfl rfl ?_
    refine g_iconst dL_law_183 (by decide) ?_
    refine g_iadd dL_law_184 p4 ?_
    refine g_sld rfl p5 p6 dL_law_185 ?_
    refine g_aload_n dL_law_186 rfl rfl ?_
    refine g_iload_n dL_law_187 rfl rfl ?_
    refine g_iconst dL_law_188 (by decide) ?_
    refine g_iadd dL_law_189 p7 ?_
    refine g_sld rfl p8 p9 dL_law_190 ?_
    refine g_if_eq (tgt := 198) dL_law_191 (by decide) (fun c28 => ?_) (fun c28 => ?_)
    · have h := h.1 c28
      refine g_iconst dL_law_198 (by decide) ?_
      refine g_invVI (as := [.inl (f ((x3 + 1)).toNat), .inl (f ((x3 + 2)).toNat), .inl 0]) (rest := [.inl v25]) okX11_column mlL_17 (by decide) rfl ⟨_, _, rfl⟩ rfl ⟨Nat.le_of_ble_eq_true rfl, Nat.le_of_ble_eq_true rfl⟩ (Nat.le_of_ble_eq_true rfl) rfl dL_law_199 h (Or.inl rfl) (fun v29 σ30 e31 => ?_)
      have h := e31
      refine g_icmp_eq (tgt := 901) dL_law_202 (by decide) (fun c32 => ?_) (fun c32 => ?_)
      · have h := h.1 c32
        obtain ⟨p33, h⟩ := h
        refine g_iinc (ls' := [some (.inr 95), some (.inr 0), some (.inr 73), some (.inl (x3 + 5))]) dL_law_901 (by decide) rfl p33 rfl ?_
        refine g_goto (tgt := 18) dL_law_904 (by decide) ?_
        exact h
      · have h := h.2 c32
        refine g_iconst dL_law_205 (by decide) ?_
        exact g_zreturn rfl dL_law_206 (by decide) h
    · have h := h.2 c28
      refine g_iconst dL_law_194 (by decide) ?_
      refine g_goto (tgt := 199) dL_law_195 (by decide) ?_
      refine g_invVI (as := [.inl (f ((x3 + 1)).toNat), .inl (f ((x3 + 2)).toNat), .inl 1]) (rest := [.inl v25]) okX11_column mlL_17 (by decide) rfl ⟨_, _, rfl⟩ rfl ⟨Nat.le_of_ble_eq_true rfl, Nat.le_of_ble_eq_true rfl⟩ (Nat.le_of_ble_eq_true rfl) rfl dL_law_199 h (Or.inl rfl) (fun v34 σ35 e36 => ?_)
      have h := e36
      refine g_icmp_eq (tgt := 901) dL_law_202 (by decide) (fun c37 => ?_) (fun c37 => ?_)
      · have h := h.1 c37
        obtain ⟨p38, h⟩ := h
        refine g_iinc (ls' := [some (.inr 95), some (.inr 0), some (.inr 73), some (.inl (x3 + 5))]) dL_law_901 (by decide) rfl p38 rfl ?_
        refine g_goto (tgt := 18) dL_law_904 (by decide) ?_
        exact h
      · have h := h.2 c37
        refine g_iconst dL_law_205 (by decide) ?_
        exact g_zreturn rfl dL_law_206 (by decide) h
set_option maxRecDepth 100000 in
set_option maxHeartbeats 4000000 in
theorem rL_law_207 {L : Nat} {f : Nat → Int} {x3 : Int} {σ : Mem} {Q : Int → Mem → Prop} (h : ((inR (x3 + 1)) ∧ (((0 ≤ (x3 + 1)) ∧ ((((x3 + 1) < (L : Int)) ∧ (((inR (x3 + 2)) ∧ (((0 ≤ (x3 + 2)) ∧ ((((x3 + 2) < (L : Int)) ∧ (CM mX10_slot [.inr 0, .inl (f ((x3 + 1)).toNat), .inl (f ((x3 + 2)).toNat)] σ (fun v7 σ8 => CM mX11_slot [.inr 73, .inl (f ((x3 + 1)).toNat), .inl (f ((x3 + 2)).toNat)] σ8 (fun v10 σ11 => (v7 = v10 → ((inR (x3 + 5)) ∧ (GO (some (L, f)) mL_law 18 [some (.inr 95), some (.inr 0), some (.inr 73), some (.inl (x3 + 5))] [] σ11 Q))) ∧ (v7 ≠ v10 → Q 0 σ11)))))))))))))))) : GO (some (L, f)) mL_law 207 [some (.inr 95), some (.inr 0), some (.inr 73), some (.inl x3)] [] σ Q := by
  refine g_aload_n dL_law_207 rfl rfl ?_
  refine g_aload_n dL_law_208 rfl rfl ?_
  refine g_iload_n dL_law_209 rfl rfl ?_
  refine g_iconst dL_law_210 (by decide) ?_
  obtain ⟨p1, h⟩ := h
  refine g_iadd dL_law_211 p1 ?_
  obtain ⟨p2, h⟩ := h
  obtain ⟨p3, h⟩ := h
  refine g_sld rfl p2 p3 dL_law_212 ?_
  refine g_aload_n dL_law_213 rfl rfl ?_
  refine g_iload_n dL_law_214 rfl rfl ?_
  refine g_iconst dL_law_215 (by decide) ?_
  obtain ⟨p4, h⟩ := h
  refine g_iadd dL_law_216 p4 ?_
  obtain ⟨p5, h⟩ := h
  obtain ⟨p6, h⟩ := h
  refine g_sld rfl p5 p6 dL_law_217 ?_
  refine g_invVI (as := [.inl (f ((x3 + 1)).toNat), .inl (f ((x3 + 2)).toNat)]) (rest := []) okX10_slot mlL_18 (by decide) rfl ⟨_, _, rfl⟩ rfl ⟨Nat.le_of_ble_eq_true rfl, Nat.le_of_ble_eq_true rfl⟩ (Nat.le_of_ble_eq_true rfl) rfl dL_law_218 h (Or.inl rfl) (fun v7 σ8 e9 => ?_)
  have h := e9
  refine g_aload_n dL_law_221 rfl rfl ?_
  refine g_aload_n dL_law_222 rfl rfl ?_
  refine g_iload_n dL_law_223 rfl rfl ?_
  refine g_iconst dL_law_224 (by decide) ?_
  refine g_iadd dL_law_225 p1 ?_
  refine g_sld rfl p2 p3 dL_law_226 ?_
  refine g_aload_n dL_law_227 rfl rfl ?_
  refine g_iload_n dL_law_228 rfl rfl ?_
  refine g_iconst dL_law_229 (by decide) ?_
  refine g_iadd dL_law_230 p4 ?_
  refine g_sld rfl p5 p6 dL_law_231 ?_
  refine g_invVI (as := [.inl (f ((x3 + 1)).toNat), .inl (f ((x3 + 2)).toNat)]) (rest := [.inl v7]) okX11_slot mlL_22 (by decide) rfl ⟨_, _, rfl⟩ rfl ⟨Nat.le_of_ble_eq_true rfl, Nat.le_of_ble_eq_true rfl⟩ (Nat.le_of_ble_eq_true rfl) rfl dL_law_232 h (Or.inl rfl) (fun v10 σ11 e12 => ?_)
  have h := e12
  refine g_icmp_eq (tgt := 901) dL_law_235 (by decide) (fun c13 => ?_) (fun c13 => ?_)
  · have h := h.1 c13
    obtain ⟨p14, h⟩ := h
    refine g_iinc (ls' := [some (.inr 95), some (.inr 0), some (.inr 73), some (.inl (x3 + 5))]) dL_law_901 (by decide) rfl p14 rfl ?_
    refine g_goto (tgt := 18) dL_law_904 (by decide) ?_
    exact h
  · have h := h.2 c13
    refine g_iconst dL_law_238 (by decide) ?_
    exact g_zreturn rfl dL_law_239 (by decide) h
set_option maxRecDepth 100000 in
set_option maxHeartbeats 4000000 in
theorem rL_law_240 {L : Nat} {f : Nat → Int} {x3 : Int} {σ : Mem} {Q : Int → Mem → Prop} (h : ((inR (x3 + 1)) ∧ (((0 ≤ (x3 + 1)) ∧ ((((x3 + 1) < (L : Int)) ∧ (((inR (x3 + 2)) ∧ (((0 ≤ (x3 + 2)) ∧ ((((x3 + 2) < (L : Int)) ∧ (((inR (x3 + 3)) ∧ (((0 ≤ (x3 + 3)) ∧ ((((x3 + 3) < (L : Int)) ∧ (((f ((x3 + 3)).toNat) = 0 → CM mX10_exit [.inr 0, .inl (f ((x3 + 1)).toNat), .inl (f ((x3 + 2)).toNat), .inl 0] σ (fun v11 σ12 => ((f ((x3 + 3)).toNat) = 0 → CM mX11_exit [.inr 73, .inl (f ((x3 + 1)).toNat), .inl (f ((x3 + 2)).toNat), .inl 0] σ12 (fun v15 σ16 => (v11 = v15 → ((inR (x3 + 5)) ∧ (GO (some (L, f)) mL_law 18 [some (.inr 95), some (.inr 0), some (.inr 73), some (.inl (x3 + 5))] [] σ16 Q))) ∧ (v11 ≠ v15 → Q 0 σ16))) ∧ ((f ((x3 + 3)).toNat) ≠ 0 → CM mX11_exit [.inr 73, .inl (f ((x3 + 1)).toNat), .inl (f ((x3 + 2)).toNat), .inl 1] σ12 (fun v20 σ21 => (v11 = v20 → ((inR (x3 + 5)) ∧ (GO (some (L, f)) mL_law 18 [some (.inr 95), some (.inr 0), some (.inr 73), some (.inl (x3 + 5))] [] σ21 Q))) ∧ (v11 ≠ v20 → Q 0 σ21))))) ∧ ((f ((x3 + 3)).toNat) ≠ 0 → CM mX10_exit [.inr 0, .inl (f ((x3 + 1)).toNat), .inl (f ((x3 + 2)).toNat), .inl 1] σ (fun v25 σ26 => ((f ((x3 + 3)).toNat) = 0 → CM mX11_exit [.inr 73, .inl (f ((x3 + 1)).toNat), .inl (f ((x3 + 2)).toNat), .inl 0] σ26 (fun v29 σ30 => (v25 = v29 → ((inR (x3 + 5)) ∧ (GO (some (L, f)) mL_law 18 [some (.inr 95), some (.inr 0), some (.inr 73), some (.inl (x3 + 5))] [] σ30 Q))) ∧ (v25 ≠ v29 → Q 0 σ30))) ∧ ((f ((x3 + 3)).toNat) ≠ 0 → CM mX11_exit [.inr 73, .inl (f ((x3 + 1)).toNat), .inl (f ((x3 + 2)).toNat), .inl 1] σ26 (fun v34 σ35 => (v25 = v34 → ((inR (x3 + 5)) ∧ (GO (some (L, f)) mL_law 18 [some (.inr 95), some (.inr 0), some (.inr 73), some (.inl (x3 + 5))] [] σ35 Q))) ∧ (v25 ≠ v34 → Q 0 σ35)))))))))))))))))))))))) : GO (some (L, f)) mL_law 240 [some (.inr 95), some (.inr 0), some (.inr 73), some (.inl x3)] [] σ Q := by
  refine g_aload_n dL_law_240 rfl rfl ?_
  refine g_aload_n dL_law_241 rfl rfl ?_
  refine g_iload_n dL_law_242 rfl rfl ?_
  refine g_iconst dL_law_243 (by decide) ?_
  obtain ⟨p1, h⟩ := h
  refine g_iadd dL_law_244 p1 ?_
  obtain ⟨p2, h⟩ := h
  obtain ⟨p3, h⟩ := h
  refine g_sld rfl p2 p3 dL_law_245 ?_
  refine g_aload_n dL_law_246 rfl rfl ?_
  refine g_iload_n dL_law_247 rfl rfl ?_
  refine g_iconst dL_law_248 (by decide) ?_
  obtain ⟨p4, h⟩ := h
  refine g_iadd dL_law_249 p4 ?_
  obtain ⟨p5, h⟩ := h
  obtain ⟨p6, h⟩ := h
  refine g_sld rfl p5 p6 dL_law_250 ?_
  refine g_aload_n dL_law_251 rfl rfl ?_
  refine g_iload_n dL_law_252 rfl rfl ?_
  refine g_iconst dL_law_253 (by decide) ?_
  obtain ⟨p7, h⟩ := h
  refine g_iadd dL_law_254 p7 ?_
  obtain ⟨p8, h⟩ := h
  obtain ⟨p9, h⟩ := h
  refine g_sld rfl p8 p9 dL_law_255 ?_
  refine g_if_eq (tgt := 263) dL_law_256 (by decide) (fun c10 => ?_) (fun c10 => ?_)
  · have h := h.1 c10
    refine g_iconst dL_law_263 (by decide) ?_
    refine g_invVI (as := [.inl (f ((x3 + 1)).toNat), .inl (f ((x3 + 2)).toNat), .inl 0]) (rest := []) okX10_exit mlL_23 (by decide) rfl ⟨_, _, rfl⟩ rfl ⟨Nat.le_of_ble_eq_true rfl, Nat.le_of_ble_eq_true rfl⟩ (Nat.le_of_ble_eq_true rfl) rfl dL_law_264 h (Or.inl rfl) (fun v11 σ12 e13 => ?_)
    have h := e13
    refine g_aload_n dL_law_267 rfl rfl ?_
    refine g_aload_n dL_law_268 rfl rfl ?_
    refine g_iload_n dL_law_269 rfl rfl ?_
    refine g_iconst dL_law_270 (by decide) ?_
    refine g_iadd dL_law_271 p1 ?_
    refine g_sld rfl p2 p3 dL_law_272 ?_
    refine g_aload_n dL_law_273 rfl rfl ?_
    refine g_iload_n dL_law_274 rfl rfl ?_
    refine g_iconst dL_law_275 (by decide) ?_
    refine g_iadd dL_law_276 p4 ?_
    refine g_sld rfl p5 p6 dL_law_277 ?_
    refine g_aload_n dL_law_278 rfl rfl ?_
    refine g_iload_n dL_law_279 rfl rfl ?_
    refine g_iconst dL_law_280 (by decide) ?_
    refine g_iadd dL_law_281 p7 ?_
    refine g_sld rfl p8 p9 dL_law_282 ?_
    refine g_if_eq (tgt := 290) dL_law_283 (by decide) (fun c14 => ?_) (fun c14 => ?_)
    · have h := h.1 c14
      refine g_iconst dL_law_290 (by decide) ?_
      refine g_invVI (as := [.inl (f ((x3 + 1)).toNat), .inl (f ((x3 + 2)).toNat), .inl 0]) (rest := [.inl v11]) okX11_exit mlL_26 (by decide) rfl ⟨_, _, rfl⟩ rfl ⟨Nat.le_of_ble_eq_true rfl, Nat.le_of_ble_eq_true rfl⟩ (Nat.le_of_ble_eq_true rfl) rfl dL_law_291 h (Or.inl rfl) (fun v15 σ16 e17 => ?_)
      have h := e17
      refine g_icmp_eq (tgt := 901) dL_law_294 (by decide) (fun c18 => ?_) (fun c18 => ?_)
      · have h := h.1 c18
        obtain ⟨p19, h⟩ := h
        refine g_iinc (ls' := [some (.inr 95), some (.inr 0), some (.inr 73), some (.inl (x3 + 5))]) dL_law_901 (by decide) rfl p19 rfl ?_
        refine g_goto (tgt := 18) dL_law_904 (by decide) ?_
        exact h
      · have h := h.2 c18
        refine g_iconst dL_law_297 (by decide) ?_
        exact g_zreturn rfl dL_law_298 (by decide) h
    · have h := h.2 c14
      refine g_iconst dL_law_286 (by decide) ?_
      refine g_goto (tgt := 291) dL_law_287 (by decide) ?_
      refine g_invVI (as := [.inl (f ((x3 + 1)).toNat), .inl (f ((x3 + 2)).toNat), .inl 1]) (rest := [.inl v11]) okX11_exit mlL_26 (by decide) rfl ⟨_, _, rfl⟩ rfl ⟨Nat.le_of_ble_eq_true rfl, Nat.le_of_ble_eq_true rfl⟩ (Nat.le_of_ble_eq_true rfl) rfl dL_law_291 h (Or.inl rfl) (fun v20 σ21 e22 => ?_)
      have h := e22
      refine g_icmp_eq (tgt := 901) dL_law_294 (by decide) (fun c23 => ?_) (fun c23 => ?_)
      · have h := h.1 c23
        obtain ⟨p24, h⟩ := h
        refine g_iinc (ls' := [some (.inr 95), some (.inr 0), some (.inr 73), some (.inl (x3 + 5))]) dL_law_901 (by decide) rfl p24 rfl ?_
        refine g_goto (tgt := 18) dL_law_904 (by decide) ?_
        exact h
      · have h := h.2 c23
        refine g_iconst dL_law_297 (by decide) ?_
        exact g_zreturn rfl dL_law_298 (by decide) h
  · have h := h.2 c10
    refine g_iconst dL_law_259 (by decide) ?_
    refine g_goto (tgt := 264) dL_law_260 (by decide) ?_
    refine g_invVI (as := [.inl (f ((x3 + 1)).toNat), .inl (f ((x3 + 2)).toNat), .inl 1]) (rest := []) okX10_exit mlL_23 (by decide) rfl ⟨_, _, rfl⟩ rfl ⟨Nat.le_of_ble_eq_true rfl, Nat.le_of_ble_eq_true rfl⟩ (Nat.le_of_ble_eq_true rfl) rfl dL_law_264 h (Or.inl rfl) (fun v25 σ26 e27 => ?_)
    have h := e27
    refine g_aload_n dL_law_267 rfl rfl ?_
    refine g_aload_n dL_law_268 rfl rfl ?_
    refine g_iload_n dL_law_269 rfl rfl ?_
    refine g_iconst dL_law_270 (by decide) ?_
    refine g_iadd dL_law_271 p1 ?_
    refine g_sld rfl p2 p3 dL_law_272 ?_
    refine g_aload_n dL_law_273 rfl rfl ?_
    refine g_iload_n dL_law_274 rfl rfl ?_
    refine g_iconst dL_law_275 (by decide) ?_
    refine g_iadd dL_law_276 p4 ?_
    refine g_sld rfl p5 p6 dL_law_277 ?_
    refine g_aload_n dL_law_278 rfl rfl ?_
    refine g_iload_n dL_law_279 rfl rfl ?_
    refine g_iconst dL_law_280 (by decide) ?_
    refine g_iadd dL_law_281 p7 ?_
    refine g_sld rfl p8 p9 dL_law_282 ?_
    refine g_if_eq (tgt := 290) dL_law_283 (by decide) (fun c28 => ?_) (fun c28 => ?_)
    · have h := h.1 c28
      refine g_iconst dL_law_290 (by decide) ?_
      refine g_invVI (as := [.inl (f ((x3 + 1)).toNat), .inl (f ((x3 + 2)).toNat), .inl 0]) (rest := [.inl v25]) okX11_exit mlL_26 (by decide) rfl ⟨_, _, rfl⟩ rfl ⟨Nat.le_of_ble_eq_true rfl, Nat.le_of_ble_eq_true rfl⟩ (Nat.le_of_ble_eq_true rfl) rfl dL_law_291 h (Or.inl rfl) (fun v29 σ30 e31 => ?_)
      have h := e31
      refine g_icmp_eq (tgt := 901) dL_law_294 (by decide) (fun c32 => ?_) (fun c32 => ?_)
      · have h := h.1 c32
        obtain ⟨p33, h⟩ := h
        refine g_iinc (ls' := [some (.inr 95), some (.inr 0), some (.inr 73), some (.inl (x3 + 5))]) dL_law_901 (by decide) rfl p33 rfl ?_
        refine g_goto (tgt := 18) dL_law_904 (by decide) ?_
        exact h
      · have h := h.2 c32
        refine g_iconst dL_law_297 (by decide) ?_
        exact g_zreturn rfl dL_law_298 (by decide) h
    · have h := h.2 c28
      refine g_iconst dL_law_286 (by decide) ?_
      refine g_goto (tgt := 291) dL_law_287 (by decide) ?_
      refine g_invVI (as := [.inl (f ((x3 + 1)).toNat), .inl (f ((x3 + 2)).toNat), .inl 1]) (rest := [.inl v25]) okX11_exit mlL_26 (by decide) rfl ⟨_, _, rfl⟩ rfl ⟨Nat.le_of_ble_eq_true rfl, Nat.le_of_ble_eq_true rfl⟩ (Nat.le_of_ble_eq_true rfl) rfl dL_law_291 h (Or.inl rfl) (fun v34 σ35 e36 => ?_)
      have h := e36
      refine g_icmp_eq (tgt := 901) dL_law_294 (by decide) (fun c37 => ?_) (fun c37 => ?_)
      · have h := h.1 c37
        obtain ⟨p38, h⟩ := h
        refine g_iinc (ls' := [some (.inr 95), some (.inr 0), some (.inr 73), some (.inl (x3 + 5))]) dL_law_901 (by decide) rfl p38 rfl ?_
        refine g_goto (tgt := 18) dL_law_904 (by decide) ?_
        exact h
      · have h := h.2 c37
        refine g_iconst dL_law_297 (by decide) ?_
        exact g_zreturn rfl dL_law_298 (by decide) h
set_option maxRecDepth 100000 in
set_option maxHeartbeats 4000000 in
theorem rL_law_299 {L : Nat} {f : Nat → Int} {x3 : Int} {σ : Mem} {Q : Int → Mem → Prop} (h : ((inR (x3 + 1)) ∧ (((0 ≤ (x3 + 1)) ∧ ((((x3 + 1) < (L : Int)) ∧ (((inR (x3 + 2)) ∧ (((0 ≤ (x3 + 2)) ∧ ((((x3 + 2) < (L : Int)) ∧ (CM mX10_far [.inr 0, .inl (f ((x3 + 1)).toNat), .inl (f ((x3 + 2)).toNat)] σ (fun v7 σ8 => CM mX11_far [.inr 73, .inl (f ((x3 + 1)).toNat), .inl (f ((x3 + 2)).toNat)] σ8 (fun v10 σ11 => (v7 = v10 → ((inR (x3 + 5)) ∧ (GO (some (L, f)) mL_law 18 [some (.inr 95), some (.inr 0), some (.inr 73), some (.inl (x3 + 5))] [] σ11 Q))) ∧ (v7 ≠ v10 → Q 0 σ11)))))))))))))))) : GO (some (L, f)) mL_law 299 [some (.inr 95), some (.inr 0), some (.inr 73), some (.inl x3)] [] σ Q := by
  refine g_aload_n dL_law_299 rfl rfl ?_
  refine g_aload_n dL_law_300 rfl rfl ?_
  refine g_iload_n dL_law_301 rfl rfl ?_
  refine g_iconst dL_law_302 (by decide) ?_
  obtain ⟨p1, h⟩ := h
  refine g_iadd dL_law_303 p1 ?_
  obtain ⟨p2, h⟩ := h
  obtain ⟨p3, h⟩ := h
  refine g_sld rfl p2 p3 dL_law_304 ?_
  refine g_aload_n dL_law_305 rfl rfl ?_
  refine g_iload_n dL_law_306 rfl rfl ?_
  refine g_iconst dL_law_307 (by decide) ?_
  obtain ⟨p4, h⟩ := h
  refine g_iadd dL_law_308 p4 ?_
  obtain ⟨p5, h⟩ := h
  obtain ⟨p6, h⟩ := h
  refine g_sld rfl p5 p6 dL_law_309 ?_
  refine g_invVI (as := [.inl (f ((x3 + 1)).toNat), .inl (f ((x3 + 2)).toNat)]) (rest := []) okX10_far mlL_27 (by decide) rfl ⟨_, _, rfl⟩ rfl ⟨Nat.le_of_ble_eq_true rfl, Nat.le_of_ble_eq_true rfl⟩ (Nat.le_of_ble_eq_true rfl) rfl dL_law_310 h (Or.inl rfl) (fun v7 σ8 e9 => ?_)
  have h := e9
  refine g_aload_n dL_law_313 rfl rfl ?_
  refine g_aload_n dL_law_314 rfl rfl ?_
  refine g_iload_n dL_law_315 rfl rfl ?_
  refine g_iconst dL_law_316 (by decide) ?_
  refine g_iadd dL_law_317 p1 ?_
  refine g_sld rfl p2 p3 dL_law_318 ?_
  refine g_aload_n dL_law_319 rfl rfl ?_
  refine g_iload_n dL_law_320 rfl rfl ?_
  refine g_iconst dL_law_321 (by decide) ?_
  refine g_iadd dL_law_322 p4 ?_
  refine g_sld rfl p5 p6 dL_law_323 ?_
  refine g_invVI (as := [.inl (f ((x3 + 1)).toNat), .inl (f ((x3 + 2)).toNat)]) (rest := [.inl v7]) okX11_far mlL_30 (by decide) rfl ⟨_, _, rfl⟩ rfl ⟨Nat.le_of_ble_eq_true rfl, Nat.le_of_ble_eq_true rfl⟩ (Nat.le_of_ble_eq_true rfl) rfl dL_law_324 h (Or.inl rfl) (fun v10 σ11 e12 => ?_)
  have h := e12
  refine g_icmp_eq (tgt := 901) dL_law_327 (by decide) (fun c13 => ?_) (fun c13 => ?_)
  · have h := h.1 c13
    obtain ⟨p14, h⟩ := h
    refine g_iinc (ls' := [some (.inr 95), some (.inr 0), some (.inr 73), some (.inl (x3 + 5))]) dL_law_901 (by decide) rfl p14 rfl ?_
    refine g_goto (tgt := 18) dL_law_904 (by decide) ?_
    exact h
  · have h := h.2 c13
    refine g_iconst dL_law_330 (by decide) ?_
    exact g_zreturn rfl dL_law_331 (by decide) h
set_option maxRecDepth 100000 in
set_option maxHeartbeats 4000000 in
theorem rL_law_332 {L : Nat} {f : Nat → Int} {x3 : Int} {σ : Mem} {Q : Int → Mem → Prop} (h : ((inR (x3 + 1)) ∧ (((0 ≤ (x3 + 1)) ∧ ((((x3 + 1) < (L : Int)) ∧ (CM mX10_out [.inr 0, .inl (f ((x3 + 1)).toNat)] σ (fun v4 σ5 => CM mX11_out [.inr 73, .inl (f ((x3 + 1)).toNat)] σ5 (fun v7 σ8 => (v4 = v7 → ((inR (x3 + 5)) ∧ (GO (some (L, f)) mL_law 18 [some (.inr 95), some (.inr 0), some (.inr 73), some (.inl (x3 + 5))] [] σ8 Q))) ∧ (v4 ≠ v7 → Q 0 σ8)))))))))) : GO (some (L, f)) mL_law 332 [some (.inr 95), some (.inr 0), some (.inr 73), some (.inl x3)] [] σ Q := by
  refine g_aload_n dL_law_332 rfl rfl ?_
  refine g_aload_n dL_law_333 rfl rfl ?_
  refine g_iload_n dL_law_334 rfl rfl ?_
  refine g_iconst dL_law_335 (by decide) ?_
  obtain ⟨p1, h⟩ := h
  refine g_iadd dL_law_336 p1 ?_
  obtain ⟨p2, h⟩ := h
  obtain ⟨p3, h⟩ := h
  refine g_sld rfl p2 p3 dL_law_337 ?_
  refine g_invVI (as := [.inl (f ((x3 + 1)).toNat)]) (rest := []) okX10_out mlL_31 (by decide) rfl ⟨_, _, rfl⟩ rfl ⟨Nat.le_of_ble_eq_true rfl, Nat.le_of_ble_eq_true rfl⟩ (Nat.le_of_ble_eq_true rfl) rfl dL_law_338 h (Or.inl rfl) (fun v4 σ5 e6 => ?_)
  have h := e6
  refine g_aload_n dL_law_341 rfl rfl ?_
  refine g_aload_n dL_law_342 rfl rfl ?_
  refine g_iload_n dL_law_343 rfl rfl ?_
  refine g_iconst dL_law_344 (by decide) ?_
  refine g_iadd dL_law_345 p1 ?_
  refine g_sld rfl p2 p3 dL_law_346 ?_
  refine g_invVI (as := [.inl (f ((x3 + 1)).toNat)]) (rest := [.inl v4]) okX11_out mlL_35 (by decide) rfl ⟨_, _, rfl⟩ rfl ⟨Nat.le_of_ble_eq_true rfl, Nat.le_of_ble_eq_true rfl⟩ (Nat.le_of_ble_eq_true rfl) rfl dL_law_347 h (Or.inl rfl) (fun v7 σ8 e9 => ?_)
  have h := e9
  refine g_icmp_eq (tgt := 901) dL_law_350 (by decide) (fun c10 => ?_) (fun c10 => ?_)
  · have h := h.1 c10
    obtain ⟨p11, h⟩ := h
    refine g_iinc (ls' := [some (.inr 95), some (.inr 0), some (.inr 73), some (.inl (x3 + 5))]) dL_law_901 (by decide) rfl p11 rfl ?_
    refine g_goto (tgt := 18) dL_law_904 (by decide) ?_
    exact h
  · have h := h.2 c10
    refine g_iconst dL_law_353 (by decide) ?_
    exact g_zreturn rfl dL_law_354 (by decide) h
set_option maxRecDepth 100000 in
set_option maxHeartbeats 4000000 in
theorem rL_law_355 {L : Nat} {f : Nat → Int} {x3 : Int} {σ : Mem} {Q : Int → Mem → Prop} (h : ((inR (x3 + 1)) ∧ (((0 ≤ (x3 + 1)) ∧ ((((x3 + 1) < (L : Int)) ∧ (CM mX10_bound [.inr 0, .inl (f ((x3 + 1)).toNat)] σ (fun v4 σ5 => CM mX11_bound [.inr 73, .inl (f ((x3 + 1)).toNat)] σ5 (fun v7 σ8 => (v4 = v7 → ((inR (x3 + 5)) ∧ (GO (some (L, f)) mL_law 18 [some (.inr 95), some (.inr 0), some (.inr 73), some (.inl (x3 + 5))] [] σ8 Q))) ∧ (v4 ≠ v7 → Q 0 σ8)))))))))) : GO (some (L, f)) mL_law 355 [some (.inr 95), some (.inr 0), some (.inr 73), some (.inl x3)] [] σ Q := by
  refine g_aload_n dL_law_355 rfl rfl ?_
  refine g_aload_n dL_law_356 rfl rfl ?_
  refine g_iload_n dL_law_357 rfl rfl ?_
  refine g_iconst dL_law_358 (by decide) ?_
  obtain ⟨p1, h⟩ := h
  refine g_iadd dL_law_359 p1 ?_
  obtain ⟨p2, h⟩ := h
  obtain ⟨p3, h⟩ := h
  refine g_sld rfl p2 p3 dL_law_360 ?_
  refine g_invVI (as := [.inl (f ((x3 + 1)).toNat)]) (rest := []) okX10_bound mlL_36 (by decide) rfl ⟨_, _, rfl⟩ rfl ⟨Nat.le_of_ble_eq_true rfl, Nat.le_of_ble_eq_true rfl⟩ (Nat.le_of_ble_eq_true rfl) rfl dL_law_361 h (Or.inl rfl) (fun v4 σ5 e6 => ?_)
  have h := e6
  refine g_aload_n dL_law_364 rfl rfl ?_
  refine g_aload_n dL_law_365 rfl rfl ?_
  refine g_iload_n dL_law_366 rfl rfl ?_
  refine g_iconst dL_law_367 (by decide) ?_
  refine g_iadd dL_law_368 p1 ?_
  refine g_sld rfl p2 p3 dL_law_369 ?_
  refine g_invVI (as := [.inl (f ((x3 + 1)).toNat)]) (rest := [.inl v4]) okX11_bound mlL_39 (by decide) rfl ⟨_, _, rfl⟩ rfl ⟨Nat.le_of_ble_eq_true rfl, Nat.le_of_ble_eq_true rfl⟩ (Nat.le_of_ble_eq_true rfl) rfl dL_law_370 h (Or.inl rfl) (fun v7 σ8 e9 => ?_)
  have h := e9
  refine g_icmp_eq (tgt := 901) dL_law_373 (by decide) (fun c10 => ?_) (fun c10 => ?_)
  · have h := h.1 c10
    obtain ⟨p11, h⟩ := h
    refine g_iinc (ls' := [some (.inr 95), some (.inr 0), some (.inr 73), some (.inl (x3 + 5))]) dL_law_901 (by decide) rfl p11 rfl ?_
    refine g_goto (tgt := 18) dL_law_904 (by decide) ?_
    exact h
  · have h := h.2 c10
    refine g_iconst dL_law_376 (by decide) ?_
    exact g_zreturn rfl dL_law_377 (by decide) h
set_option maxRecDepth 100000 in
set_option maxHeartbeats 4000000 in
theorem rL_law_378 {L : Nat} {f : Nat → Int} {x3 : Int} {σ : Mem} {Q : Int → Mem → Prop} (h : CM mX10_shop [.inr 0] σ (fun v1 σ2 => CM mX11_shop [.inr 73] σ2 (fun v4 σ5 => (v1 = v4 → ((inR (x3 + 5)) ∧ (GO (some (L, f)) mL_law 18 [some (.inr 95), some (.inr 0), some (.inr 73), some (.inl (x3 + 5))] [] σ5 Q))) ∧ (v1 ≠ v4 → Q 0 σ5)))) : GO (some (L, f)) mL_law 378 [some (.inr 95), some (.inr 0), some (.inr 73), some (.inl x3)] [] σ Q := by
  refine g_aload_n dL_law_378 rfl rfl ?_
  refine g_invVI (as := []) (rest := []) okX10_shop mlL_40 (by decide) rfl ⟨_, _, rfl⟩ rfl ⟨Nat.le_of_ble_eq_true rfl, Nat.le_of_ble_eq_true rfl⟩ (Nat.le_of_ble_eq_true rfl) rfl dL_law_379 h (Or.inl rfl) (fun v1 σ2 e3 => ?_)
  have h := e3
  refine g_aload_n dL_law_382 rfl rfl ?_
  refine g_invVI (as := []) (rest := [.inl v1]) okX11_shop mlL_44 (by decide) rfl ⟨_, _, rfl⟩ rfl ⟨Nat.le_of_ble_eq_true rfl, Nat.le_of_ble_eq_true rfl⟩ (Nat.le_of_ble_eq_true rfl) rfl dL_law_383 h (Or.inl rfl) (fun v4 σ5 e6 => ?_)
  have h := e6
  refine g_icmp_eq (tgt := 901) dL_law_386 (by decide) (fun c7 => ?_) (fun c7 => ?_)
  · have h := h.1 c7
    obtain ⟨p8, h⟩ := h
    refine g_iinc (ls' := [some (.inr 95), some (.inr 0), some (.inr 73), some (.inl (x3 + 5))]) dL_law_901 (by decide) rfl p8 rfl ?_
    refine g_goto (tgt := 18) dL_law_904 (by decide) ?_
    exact h
  · have h := h.2 c7
    refine g_iconst dL_law_389 (by decide) ?_
    exact g_zreturn rfl dL_law_390 (by decide) h
set_option maxRecDepth 100000 in
set_option maxHeartbeats 4000000 in
theorem rL_law_391 {L : Nat} {f : Nat → Int} {x3 : Int} {σ : Mem} {Q : Int → Mem → Prop} (h : ((inR (x3 + 1)) ∧ (((0 ≤ (x3 + 1)) ∧ ((((x3 + 1) < (L : Int)) ∧ (((inR (x3 + 2)) ∧ (((0 ≤ (x3 + 2)) ∧ ((((x3 + 2) < (L : Int)) ∧ (((inR (x3 + 3)) ∧ (((0 ≤ (x3 + 3)) ∧ ((((x3 + 3) < (L : Int)) ∧ (((inR (x3 + 4)) ∧ (((0 ≤ (x3 + 4)) ∧ ((((x3 + 4) < (L : Int)) ∧ (CM mX10_load [.inr 0, .inl (f ((x3 + 1)).toNat), .inl (f ((x3 + 2)).toNat), .inl (f ((x3 + 3)).toNat), .inl (f ((x3 + 4)).toNat)] σ (fun v13 σ14 => CM mX11_load [.inr 73, .inl (f ((x3 + 1)).toNat), .inl (f ((x3 + 2)).toNat), .inl (f ((x3 + 3)).toNat), .inl (f ((x3 + 4)).toNat)] σ14 (fun v16 σ17 => (v13 = v16 → ((inR (x3 + 5)) ∧ (GO (some (L, f)) mL_law 18 [some (.inr 95), some (.inr 0), some (.inr 73), some (.inl (x3 + 5))] [] σ17 Q))) ∧ (v13 ≠ v16 → Q 0 σ17)))))))))))))))))))))))))))) : GO (some (L, f)) mL_law 391 [some (.inr 95), some (.inr 0), some (.inr 73), some (.inl x3)] [] σ Q := by
  refine g_aload_n dL_law_391 rfl rfl ?_
  refine g_aload_n dL_law_392 rfl rfl ?_
  refine g_iload_n dL_law_393 rfl rfl ?_
  refine g_iconst dL_law_394 (by decide) ?_
  obtain ⟨p1, h⟩ := h
  refine g_iadd dL_law_395 p1 ?_
  obtain ⟨p2, h⟩ := h
  obtain ⟨p3, h⟩ := h
  refine g_sld rfl p2 p3 dL_law_396 ?_
  refine g_aload_n dL_law_397 rfl rfl ?_
  refine g_iload_n dL_law_398 rfl rfl ?_
  refine g_iconst dL_law_399 (by decide) ?_
  obtain ⟨p4, h⟩ := h
  refine g_iadd dL_law_400 p4 ?_
  obtain ⟨p5, h⟩ := h
  obtain ⟨p6, h⟩ := h
  refine g_sld rfl p5 p6 dL_law_401 ?_
  refine g_aload_n dL_law_402 rfl rfl ?_
  refine g_iload_n dL_law_403 rfl rfl ?_
  refine g_iconst dL_law_404 (by decide) ?_
  obtain ⟨p7, h⟩ := h
  refine g_iadd dL_law_405 p7 ?_
  obtain ⟨p8, h⟩ := h
  obtain ⟨p9, h⟩ := h
  refine g_sld rfl p8 p9 dL_law_406 ?_
  refine g_aload_n dL_law_407 rfl rfl ?_
  refine g_iload_n dL_law_408 rfl rfl ?_
  refine g_iconst dL_law_409 (by decide) ?_
  obtain ⟨p10, h⟩ := h
  refine g_iadd dL_law_410 p10 ?_
  obtain ⟨p11, h⟩ := h
  obtain ⟨p12, h⟩ := h
  refine g_sld rfl p11 p12 dL_law_411 ?_
  refine g_invVI (as := [.inl (f ((x3 + 1)).toNat), .inl (f ((x3 + 2)).toNat), .inl (f ((x3 + 3)).toNat), .inl (f ((x3 + 4)).toNat)]) (rest := []) okX10_load mlL_45 (by decide) rfl ⟨_, _, rfl⟩ rfl ⟨Nat.le_of_ble_eq_true rfl, Nat.le_of_ble_eq_true rfl⟩ (Nat.le_of_ble_eq_true rfl) rfl dL_law_412 h (Or.inl rfl) (fun v13 σ14 e15 => ?_)
  have h := e15
  refine g_aload_n dL_law_415 rfl rfl ?_
  refine g_aload_n dL_law_416 rfl rfl ?_
  refine g_iload_n dL_law_417 rfl rfl ?_
  refine g_iconst dL_law_418 (by decide) ?_
  refine g_iadd dL_law_419 p1 ?_
  refine g_sld rfl p2 p3 dL_law_420 ?_
  refine g_aload_n dL_law_421 rfl rfl ?_
  refine g_iload_n dL_law_422 rfl rfl ?_
  refine g_iconst dL_law_423 (by decide) ?_
  refine g_iadd dL_law_424 p4 ?_
  refine g_sld rfl p5 p6 dL_law_425 ?_
  refine g_aload_n dL_law_426 rfl rfl ?_
  refine g_iload_n dL_law_427 rfl rfl ?_
  refine g_iconst dL_law_428 (by decide) ?_
  refine g_iadd dL_law_429 p7 ?_
  refine g_sld rfl p8 p9 dL_law_430 ?_
  refine g_aload_n dL_law_431 rfl rfl ?_
  refine g_iload_n dL_law_432 rfl rfl ?_
  refine g_iconst dL_law_433 (by decide) ?_
  refine g_iadd dL_law_434 p10 ?_
  refine g_sld rfl p11 p12 dL_law_435 ?_
  refine g_invVI (as := [.inl (f ((x3 + 1)).toNat), .inl (f ((x3 + 2)).toNat), .inl (f ((x3 + 3)).toNat), .inl (f ((x3 + 4)).toNat)]) (rest := [.inl v13]) okX11_load mlL_49 (by decide) rfl ⟨_, _, rfl⟩ rfl ⟨Nat.le_of_ble_eq_true rfl, Nat.le_of_ble_eq_true rfl⟩ (Nat.le_of_ble_eq_true rfl) rfl dL_law_436 h (Or.inl rfl) (fun v16 σ17 e18 => ?_)
  have h := e18
  refine g_icmp_eq (tgt := 901) dL_law_439 (by decide) (fun c19 => ?_) (fun c19 => ?_)
  · have h := h.1 c19
    obtain ⟨p20, h⟩ := h
    refine g_iinc (ls' := [some (.inr 95), some (.inr 0), some (.inr 73), some (.inl (x3 + 5))]) dL_law_901 (by decide) rfl p20 rfl ?_
    refine g_goto (tgt := 18) dL_law_904 (by decide) ?_
    exact h
  · have h := h.2 c19
    refine g_iconst dL_law_442 (by decide) ?_
    exact g_zreturn rfl dL_law_443 (by decide) h
set_option maxRecDepth 100000 in
set_option maxHeartbeats 4000000 in
theorem rL_law_444 {L : Nat} {f : Nat → Int} {x3 : Int} {σ : Mem} {Q : Int → Mem → Prop} (h : ((inR (x3 + 1)) ∧ (((0 ≤ (x3 + 1)) ∧ ((((x3 + 1) < (L : Int)) ∧ (((inR (x3 + 2)) ∧ (((0 ≤ (x3 + 2)) ∧ ((((x3 + 2) < (L : Int)) ∧ (CM mX10_weight [.inr 0, .inl (f ((x3 + 1)).toNat), .inl (f ((x3 + 2)).toNat)] σ (fun v7 σ8 => CM mX11_weight [.inr 73, .inl (f ((x3 + 1)).toNat), .inl (f ((x3 + 2)).toNat)] σ8 (fun v10 σ11 => (v7 = v10 → ((inR (x3 + 5)) ∧ (GO (some (L, f)) mL_law 18 [some (.inr 95), some (.inr 0), some (.inr 73), some (.inl (x3 + 5))] [] σ11 Q))) ∧ (v7 ≠ v10 → Q 0 σ11)))))))))))))))) : GO (some (L, f)) mL_law 444 [some (.inr 95), some (.inr 0), some (.inr 73), some (.inl x3)] [] σ Q := by
  refine g_aload_n dL_law_444 rfl rfl ?_
  refine g_aload_n dL_law_445 rfl rfl ?_
  refine g_iload_n dL_law_446 rfl rfl ?_
  refine g_iconst dL_law_447 (by decide) ?_
  obtain ⟨p1, h⟩ := h
  refine g_iadd dL_law_448 p1 ?_
  obtain ⟨p2, h⟩ := h
  obtain ⟨p3, h⟩ := h
  refine g_sld rfl p2 p3 dL_law_449 ?_
  refine g_aload_n dL_law_450 rfl rfl ?_
  refine g_iload_n dL_law_451 rfl rfl ?_
  refine g_iconst dL_law_452 (by decide) ?_
  obtain ⟨p4, h⟩ := h
  refine g_iadd dL_law_453 p4 ?_
  obtain ⟨p5, h⟩ := h
  obtain ⟨p6, h⟩ := h
  refine g_sld rfl p5 p6 dL_law_454 ?_
  refine g_invVI (as := [.inl (f ((x3 + 1)).toNat), .inl (f ((x3 + 2)).toNat)]) (rest := []) okX10_weight mlL_50 (by decide) rfl ⟨_, _, rfl⟩ rfl ⟨Nat.le_of_ble_eq_true rfl, Nat.le_of_ble_eq_true rfl⟩ (Nat.le_of_ble_eq_true rfl) rfl dL_law_455 h (Or.inl rfl) (fun v7 σ8 e9 => ?_)
  have h := e9
  refine g_aload_n dL_law_458 rfl rfl ?_
  refine g_aload_n dL_law_459 rfl rfl ?_
  refine g_iload_n dL_law_460 rfl rfl ?_
  refine g_iconst dL_law_461 (by decide) ?_
  refine g_iadd dL_law_462 p1 ?_
  refine g_sld rfl p2 p3 dL_law_463 ?_
  refine g_aload_n dL_law_464 rfl rfl ?_
  refine g_iload_n dL_law_465 rfl rfl ?_
  refine g_iconst dL_law_466 (by decide) ?_
  refine g_iadd dL_law_467 p4 ?_
  refine g_sld rfl p5 p6 dL_law_468 ?_
  refine g_invVI (as := [.inl (f ((x3 + 1)).toNat), .inl (f ((x3 + 2)).toNat)]) (rest := [.inl v7]) okX11_weight mlL_53 (by decide) rfl ⟨_, _, rfl⟩ rfl ⟨Nat.le_of_ble_eq_true rfl, Nat.le_of_ble_eq_true rfl⟩ (Nat.le_of_ble_eq_true rfl) rfl dL_law_469 h (Or.inl rfl) (fun v10 σ11 e12 => ?_)
  have h := e12
  refine g_icmp_eq (tgt := 901) dL_law_472 (by decide) (fun c13 => ?_) (fun c13 => ?_)
  · have h := h.1 c13
    obtain ⟨p14, h⟩ := h
    refine g_iinc (ls' := [some (.inr 95), some (.inr 0), some (.inr 73), some (.inl (x3 + 5))]) dL_law_901 (by decide) rfl p14 rfl ?_
    refine g_goto (tgt := 18) dL_law_904 (by decide) ?_
    exact h
  · have h := h.2 c13
    refine g_iconst dL_law_475 (by decide) ?_
    exact g_zreturn rfl dL_law_476 (by decide) h
set_option maxRecDepth 100000 in
set_option maxHeartbeats 4000000 in
theorem rL_law_477 {L : Nat} {f : Nat → Int} {x3 : Int} {σ : Mem} {Q : Int → Mem → Prop} (h : ((inR (x3 + 1)) ∧ (((0 ≤ (x3 + 1)) ∧ ((((x3 + 1) < (L : Int)) ∧ (((inR (x3 + 2)) ∧ (((0 ≤ (x3 + 2)) ∧ ((((x3 + 2) < (L : Int)) ∧ (((inR (x3 + 3)) ∧ (((0 ≤ (x3 + 3)) ∧ ((((x3 + 3) < (L : Int)) ∧ (((f ((x3 + 3)).toNat) = 0 → ((inR (x3 + 4)) ∧ (((0 ≤ (x3 + 4)) ∧ ((((x3 + 4) < (L : Int)) ∧ (CM mX10_wish [.inr 0, .inl (f ((x3 + 1)).toNat), .inl (f ((x3 + 2)).toNat), .inl 0, .inl (f ((x3 + 4)).toNat)] σ (fun v14 σ15 => ((f ((x3 + 3)).toNat) = 0 → CM mX11_wish [.inr 73, .inl (f ((x3 + 1)).toNat), .inl (f ((x3 + 2)).toNat), .inl 0, .inl (f ((x3 + 4)).toNat)] σ15 (fun v18 σ19 => (v14 = v18 → ((inR (x3 + 5)) ∧ (GO (some (L, f)) mL_law 18 [some (.inr 95), some (.inr 0), some (.inr 73), some (.inl (x3 + 5))] [] σ19 Q))) ∧ (v14 ≠ v18 → Q 0 σ19))) ∧ ((f ((x3 + 3)).toNat) ≠ 0 → CM mX11_wish [.inr 73, .inl (f ((x3 + 1)).toNat), .inl (f ((x3 + 2)).toNat), .inl 1, .inl (f ((x3 + 4)).toNat)] σ15 (fun v23 σ24 => (v14 = v23 → ((inR (x3 + 5)) ∧ (GO (some (L, f)) mL_law 18 [some (.inr 95), some (.inr 0), some (.inr 73), some (.inl (x3 + 5))] [] σ24 Q))) ∧ (v14 ≠ v23 → Q 0 σ24))))))))))) ∧ ((f ((x3 + 3)).toNat) ≠ 0 → ((inR (x3 + 4)) ∧ (((0 ≤ (x3 + 4)) ∧ ((((x3 + 4) < (L : Int)) ∧ (CM mX10_wish [.inr 0, .inl (f ((x3 + 1)).toNat), .inl (f ((x3 + 2)).toNat), .inl 1, .inl (f ((x3 + 4)).toNat)] σ (fun v31 σ32 => ((f ((x3 + 3)).toNat) = 0 → CM mX11_wish [.inr 73, .inl (f ((x3 + 1)).toNat), .inl (f ((x3 + 2)).toNat), .inl 0, .inl (f ((x3 + 4)).toNat)] σ32 (fun v35 σ36 => (v31 = v35 → ((inR (x3 + 5)) ∧ (GO (some (L, f)) mL_law 18 [some (.inr 95), some (.inr 0), some (.inr 73), some (.inl (x3 + 5))] [] σ36 Q))) ∧ (v31 ≠ v35 → Q 0 σ36))) ∧ ((f ((x3 + 3)).toNat) ≠ 0 → CM mX11_wish [.inr 73, .inl (f ((x3 + 1)).toNat), .inl (f ((x3 + 2)).toNat), .inl 1, .inl (f ((x3 + 4)).toNat)] σ32 (fun v40 σ41 => (v31 = v40 → ((inR (x3 + 5)) ∧ (GO (some (L, f)) mL_law 18 [some (.inr 95), some (.inr 0), some (.inr 73), some (.inl (x3 + 5))] [] σ41 Q))) ∧ (v31 ≠ v40 → Q 0 σ41)))))))))))))))))))))))))))))) : GO (some (L, f)) mL_law 477 [some (.inr 95), some (.inr 0), some (.inr 73), some (.inl x3)] [] σ Q := by
  refine g_aload_n dL_law_477 rfl rfl ?_
  refine g_aload_n dL_law_478 rfl rfl ?_
  refine g_iload_n dL_law_479 rfl rfl ?_
  refine g_iconst dL_law_480 (by decide) ?_
  obtain ⟨p1, h⟩ := h
  refine g_iadd dL_law_481 p1 ?_
  obtain ⟨p2, h⟩ := h
  obtain ⟨p3, h⟩ := h
  refine g_sld rfl p2 p3 dL_law_482 ?_
  refine g_aload_n dL_law_483 rfl rfl ?_
  refine g_iload_n dL_law_484 rfl rfl ?_
  refine g_iconst dL_law_485 (by decide) ?_
  obtain ⟨p4, h⟩ := h
  refine g_iadd dL_law_486 p4 ?_
  obtain ⟨p5, h⟩ := h
  obtain ⟨p6, h⟩ := h
  refine g_sld rfl p5 p6 dL_law_487 ?_
  refine g_aload_n dL_law_488 rfl rfl ?_
  refine g_iload_n dL_law_489 rfl rfl ?_
  refine g_iconst dL_law_490 (by decide) ?_
  obtain ⟨p7, h⟩ := h
  refine g_iadd dL_law_491 p7 ?_
  obtain ⟨p8, h⟩ := h
  obtain ⟨p9, h⟩ := h
  refine g_sld rfl p8 p9 dL_law_492 ?_
  refine g_if_eq (tgt := 500) dL_law_493 (by decide) (fun c10 => ?_) (fun c10 => ?_)
  · have h := h.1 c10
    refine g_iconst dL_law_500 (by decide) ?_
    refine g_aload_n dL_law_501 rfl rfl ?_
    refine g_iload_n dL_law_502 rfl rfl ?_
    refine g_iconst dL_law_503 (by decide) ?_
    obtain ⟨p11, h⟩ := h
    refine g_iadd dL_law_504 p11 ?_
    obtain ⟨p12, h⟩ := h
    obtain ⟨p13, h⟩ := h
    refine g_sld rfl p12 p13 dL_law_505 ?_
    refine g_invVI (as := [.inl (f ((x3 + 1)).toNat), .inl (f ((x3 + 2)).toNat), .inl 0, .inl (f ((x3 + 4)).toNat)]) (rest := []) okX10_wish mlL_54 (by decide) rfl ⟨_, _, rfl⟩ rfl ⟨Nat.le_of_ble_eq_true rfl, Nat.le_of_ble_eq_true rfl⟩ (Nat.le_of_ble_eq_true rfl) rfl dL_law_506 h (Or.inl rfl) (fun v14 σ15 e16 => ?_)
    have h := e16
    refine g_aload_n dL_law_509 rfl rfl ?_
    refine g_aload_n dL_law_510 rfl rfl ?_
    refine g_iload_n dL_law_511 rfl rfl ?_
    refine g_iconst dL_law_512 (by decide) ?_
    refine g_iadd dL_law_513 p1 ?_
    refine g_sld rfl p2 p3 dL_law_514 ?_
    refine g_aload_n dL_law_515 rfl rfl ?_
    refine g_iload_n dL_law_516 rfl rfl ?_
    refine g_iconst dL_law_517 (by decide) ?_
    refine g_iadd dL_law_518 p4 ?_
    refine g_sld rfl p5 p6 dL_law_519 ?_
    refine g_aload_n dL_law_520 rfl rfl ?_
    refine g_iload_n dL_law_521 rfl rfl ?_
    refine g_iconst dL_law_522 (by decide) ?_
    refine g_iadd dL_law_523 p7 ?_
    refine g_sld rfl p8 p9 dL_law_524 ?_
    refine g_if_eq (tgt := 532) dL_law_525 (by decide) (fun c17 => ?_) (fun c17 => ?_)
    · have h := h.1 c17
      refine g_iconst dL_law_532 (by decide) ?_
      refine g_aload_n dL_law_533 rfl rfl ?_
      refine g_iload_n dL_law_534 rfl rfl ?_
      refine g_iconst dL_law_535 (by decide) ?_
      refine g_iadd dL_law_536 p11 ?_
      refine g_sld rfl p12 p13 dL_law_537 ?_
      refine g_invVI (as := [.inl (f ((x3 + 1)).toNat), .inl (f ((x3 + 2)).toNat), .inl 0, .inl (f ((x3 + 4)).toNat)]) (rest := [.inl v14]) okX11_wish mlL_58 (by decide) rfl ⟨_, _, rfl⟩ rfl ⟨Nat.le_of_ble_eq_true rfl, Nat.le_of_ble_eq_true rfl⟩ (Nat.le_of_ble_eq_true rfl) rfl dL_law_538 h (Or.inl rfl) (fun v18 σ19 e20 => ?_)
      have h := e20
      refine g_icmp_eq (tgt := 901) dL_law_541 (by decide) (fun c21 => ?_) (fun c21 => ?_)
      · have h := h.1 c21
        obtain ⟨p22, h⟩ := h
        refine g_iinc (ls' := [some (.inr 95), some (.inr 0), some (.inr 73), some (.inl (x3 + 5))]) dL_law_901 (by decide) rfl p22 rfl ?_
        refine g_goto (tgt := 18) dL_law_904 (by decide) ?_
        exact h
      · have h := h.2 c21
        refine g_iconst dL_law_544 (by decide) ?_
        exact g_zreturn rfl dL_law_545 (by decide) h
    · have h := h.2 c17
      refine g_iconst dL_law_528 (by decide) ?_
      refine g_goto (tgt := 533) dL_law_529 (by decide) ?_
      refine g_aload_n dL_law_533 rfl rfl ?_
      refine g_iload_n dL_law_534 rfl rfl ?_
      refine g_iconst dL_law_535 (by decide) ?_
      refine g_iadd dL_law_536 p11 ?_
      refine g_sld rfl p12 p13 dL_law_537 ?_
      refine g_invVI (as := [.inl (f ((x3 + 1)).toNat), .inl (f ((x3 + 2)).toNat), .inl 1, .inl (f ((x3 + 4)).toNat)]) (rest := [.inl v14]) okX11_wish mlL_58 (by decide) rfl ⟨_, _, rfl⟩ rfl ⟨Nat.le_of_ble_eq_true rfl, Nat.le_of_ble_eq_true rfl⟩ (Nat.le_of_ble_eq_true rfl) rfl dL_law_538 h (Or.inl rfl) (fun v23 σ24 e25 => ?_)
      have h := e25
      refine g_icmp_eq (tgt := 901) dL_law_541 (by decide) (fun c26 => ?_) (fun c26 => ?_)
      · have h := h.1 c26
        obtain ⟨p27, h⟩ := h
        refine g_iinc (ls' := [some (.inr 95), some (.inr 0), some (.inr 73), some (.inl (x3 + 5))]) dL_law_901 (by decide) rfl p27 rfl ?_
        refine g_goto (tgt := 18) dL_law_904 (by decide) ?_
        exact h
      · have h := h.2 c26
        refine g_iconst dL_law_544 (by decide) ?_
        exact g_zreturn rfl dL_law_545 (by decide) h
  · have h := h.2 c10
    refine g_iconst dL_law_496 (by decide) ?_
    refine g_goto (tgt := 501) dL_law_497 (by decide) ?_
    refine g_aload_n dL_law_501 rfl rfl ?_
    refine g_iload_n dL_law_502 rfl rfl ?_
    refine g_iconst dL_law_503 (by decide) ?_
    obtain ⟨p28, h⟩ := h
    refine g_iadd dL_law_504 p28 ?_
    obtain ⟨p29, h⟩ := h
    obtain ⟨p30, h⟩ := h
    refine g_sld rfl p29 p30 dL_law_505 ?_
    refine g_invVI (as := [.inl (f ((x3 + 1)).toNat), .inl (f ((x3 + 2)).toNat), .inl 1, .inl (f ((x3 + 4)).toNat)]) (rest := []) okX10_wish mlL_54 (by decide) rfl ⟨_, _, rfl⟩ rfl ⟨Nat.le_of_ble_eq_true rfl, Nat.le_of_ble_eq_true rfl⟩ (Nat.le_of_ble_eq_true rfl) rfl dL_law_506 h (Or.inl rfl) (fun v31 σ32 e33 => ?_)
    have h := e33
    refine g_aload_n dL_law_509 rfl rfl ?_
    refine g_aload_n dL_law_510 rfl rfl ?_
    refine g_iload_n dL_law_511 rfl rfl ?_
    refine g_iconst dL_law_512 (by decide) ?_
    refine g_iadd dL_law_513 p1 ?_
    refine g_sld rfl p2 p3 dL_law_514 ?_
    refine g_aload_n dL_law_515 rfl rfl ?_
    refine g_iload_n dL_law_516 rfl rfl ?_
    refine g_iconst dL_law_517 (by decide) ?_
    refine g_iadd dL_law_518 p4 ?_
    refine g_sld rfl p5 p6 dL_law_519 ?_
    refine g_aload_n dL_law_520 rfl rfl ?_
    refine g_iload_n dL_law_521 rfl rfl ?_
    refine g_iconst dL_law_522 (by decide) ?_
    refine g_iadd dL_law_523 p7 ?_
    refine g_sld rfl p8 p9 dL_law_524 ?_
    refine g_if_eq (tgt := 532) dL_law_525 (by decide) (fun c34 => ?_) (fun c34 => ?_)
    · have h := h.1 c34
      refine g_iconst dL_law_532 (by decide) ?_
      refine g_aload_n dL_law_533 rfl rfl ?_
      refine g_iload_n dL_law_534 rfl rfl ?_
      refine g_iconst dL_law_535 (by decide) ?_
      refine g_iadd dL_law_536 p28 ?_
      refine g_sld rfl p29 p30 dL_law_537 ?_
      refine g_invVI (as := [.inl (f ((x3 + 1)).toNat), .inl (f ((x3 + 2)).toNat), .inl 0, .inl (f ((x3 + 4)).toNat)]) (rest := [.inl v31]) okX11_wish mlL_58 (by decide) rfl ⟨_, _, rfl⟩ rfl ⟨Nat.le_of_ble_eq_true rfl, Nat.le_of_ble_eq_true rfl⟩ (Nat.le_of_ble_eq_true rfl) rfl dL_law_538 h (Or.inl rfl) (fun v35 σ36 e37 => ?_)
      have h := e37
      refine g_icmp_eq (tgt := 901) dL_law_541 (by decide) (fun c38 => ?_) (fun c38 => ?_)
      · have h := h.1 c38
        obtain ⟨p39, h⟩ := h
        refine g_iinc (ls' := [some (.inr 95), some (.inr 0), some (.inr 73), some (.inl (x3 + 5))]) dL_law_901 (by decide) rfl p39 rfl ?_
        refine g_goto (tgt := 18) dL_law_904 (by decide) ?_
        exact h
      · have h := h.2 c38
        refine g_iconst dL_law_544 (by decide) ?_
        exact g_zreturn rfl dL_law_545 (by decide) h
    · have h := h.2 c34
      refine g_iconst dL_law_528 (by decide) ?_
      refine g_goto (tgt := 533) dL_law_529 (by decide) ?_
      refine g_aload_n dL_law_533 rfl rfl ?_
      refine g_iload_n dL_law_534 rfl rfl ?_
      refine g_iconst dL_law_535 (by decide) ?_
      refine g_iadd dL_law_536 p28 ?_
      refine g_sld rfl p29 p30 dL_law_537 ?_
      refine g_invVI (as := [.inl (f ((x3 + 1)).toNat), .inl (f ((x3 + 2)).toNat), .inl 1, .inl (f ((x3 + 4)).toNat)]) (rest := [.inl v31]) okX11_wish mlL_58 (by decide) rfl ⟨_, _, rfl⟩ rfl ⟨Nat.le_of_ble_eq_true rfl, Nat.le_of_ble_eq_true rfl⟩ (Nat.le_of_ble_eq_true rfl) rfl dL_law_538 h (Or.inl rfl) (fun v40 σ41 e42 => ?_)
      have h := e42
      refine g_icmp_eq (tgt := 901) dL_law_541 (by decide) (fun c43 => ?_) (fun c43 => ?_)
      · have h := h.1 c43
        obtain ⟨p44, h⟩ := h
        refine g_iinc (ls' := [some (.inr 95), some (.inr 0), some (.inr 73), some (.inl (x3 + 5))]) dL_law_901 (by decide) rfl p44 rfl ?_
        refine g_goto (tgt := 18) dL_law_904 (by decide) ?_
        exact h
      · have h := h.2 c43
        refine g_iconst dL_law_544 (by decide) ?_
        exact g_zreturn rfl dL_law_545 (by decide) h
set_option maxRecDepth 100000 in
set_option maxHeartbeats 4000000 in
theorem rL_law_546 {L : Nat} {f : Nat → Int} {x3 : Int} {σ : Mem} {Q : Int → Mem → Prop} (h : ((inR (x3 + 1)) ∧ (((0 ≤ (x3 + 1)) ∧ ((((x3 + 1) < (L : Int)) ∧ (CM mX10_unwish [.inr 0, .inl (f ((x3 + 1)).toNat)] σ (fun v4 σ5 => CM mX11_unwish [.inr 73, .inl (f ((x3 + 1)).toNat)] σ5 (fun v7 σ8 => (v4 = v7 → ((inR (x3 + 5)) ∧ (GO (some (L, f)) mL_law 18 [some (.inr 95), some (.inr 0), some (.inr 73), some (.inl (x3 + 5))] [] σ8 Q))) ∧ (v4 ≠ v7 → Q 0 σ8)))))))))) : GO (some (L, f)) mL_law 546 [some (.inr 95), some (.inr 0), some (.inr 73), some (.inl x3)] [] σ Q := by
  refine g_aload_n dL_law_546 rfl rfl ?_
  refine g_aload_n dL_law_547 rfl rfl ?_
  refine g_iload_n dL_law_548 rfl rfl ?_
  refine g_iconst dL_law_549 (by decide) ?_
  obtain ⟨p1, h⟩ := h
  refine g_iadd dL_law_550 p1 ?_
  obtain ⟨p2, h⟩ := h
  obtain ⟨p3, h⟩ := h
  refine g_sld rfl p2 p3 dL_law_551 ?_
  refine g_invVI (as := [.inl (f ((x3 + 1)).toNat)]) (rest := []) okX10_unwish mlL_59 (by decide) rfl ⟨_, _, rfl⟩ rfl ⟨Nat.le_of_ble_eq_true rfl, Nat.le_of_ble_eq_true rfl⟩ (Nat.le_of_ble_eq_true rfl) rfl dL_law_552 h (Or.inl rfl) (fun v4 σ5 e6 => ?_)
  have h := e6
  refine g_aload_n dL_law_555 rfl rfl ?_
  refine g_aload_n dL_law_556 rfl rfl ?_
  refine g_iload_n dL_law_557 rfl rfl ?_
  refine g_iconst dL_law_558 (by decide) ?_
  refine g_iadd dL_law_559 p1 ?_
  refine g_sld rfl p2 p3 dL_law_560 ?_
  refine g_invVI (as := [.inl (f ((x3 + 1)).toNat)]) (rest := [.inl v4]) okX11_unwish mlL_62 (by decide) rfl ⟨_, _, rfl⟩ rfl ⟨Nat.le_of_ble_eq_true rfl, Nat.le_of_ble_eq_true rfl⟩ (Nat.le_of_ble_eq_true rfl) rfl dL_law_561 h (Or.inl rfl) (fun v7 σ8 e9 => ?_)
  have h := e9
  refine g_icmp_eq (tgt := 901) dL_law_564 (by decide) (fun c10 => ?_) (fun c10 => ?_)
  · have h := h.1 c10
    obtain ⟨p11, h⟩ := h
    refine g_iinc (ls' := [some (.inr 95), some (.inr 0), some (.inr 73), some (.inl (x3 + 5))]) dL_law_901 (by decide) rfl p11 rfl ?_
    refine g_goto (tgt := 18) dL_law_904 (by decide) ?_
    exact h
  · have h := h.2 c10
    refine g_iconst dL_law_567 (by decide) ?_
    exact g_zreturn rfl dL_law_568 (by decide) h
set_option maxRecDepth 100000 in
set_option maxHeartbeats 4000000 in
theorem rL_law_569 {L : Nat} {f : Nat → Int} {x3 : Int} {σ : Mem} {Q : Int → Mem → Prop} (h : ((inR (x3 + 1)) ∧ (((0 ≤ (x3 + 1)) ∧ ((((x3 + 1) < (L : Int)) ∧ (CM mX10_put [.inr 0, .inl (f ((x3 + 1)).toNat)] σ (fun v4 σ5 => CM mX11_put [.inr 73, .inl (f ((x3 + 1)).toNat)] σ5 (fun v7 σ8 => (v4 = v7 → ((inR (x3 + 5)) ∧ (GO (some (L, f)) mL_law 18 [some (.inr 95), some (.inr 0), some (.inr 73), some (.inl (x3 + 5))] [] σ8 Q))) ∧ (v4 ≠ v7 → Q 0 σ8)))))))))) : GO (some (L, f)) mL_law 569 [some (.inr 95), some (.inr 0), some (.inr 73), some (.inl x3)] [] σ Q := by
  refine g_aload_n dL_law_569 rfl rfl ?_
  refine g_aload_n dL_law_570 rfl rfl ?_
  refine g_iload_n dL_law_571 rfl rfl ?_
  refine g_iconst dL_law_572 (by decide) ?_
  obtain ⟨p1, h⟩ := h
  refine g_iadd dL_law_573 p1 ?_
  obtain ⟨p2, h⟩ := h
  obtain ⟨p3, h⟩ := h
  refine g_sld rfl p2 p3 dL_law_574 ?_
  refine g_invVI (as := [.inl (f ((x3 + 1)).toNat)]) (rest := []) okX10_put mlL_63 (by decide) rfl ⟨_, _, rfl⟩ rfl ⟨Nat.le_of_ble_eq_true rfl, Nat.le_of_ble_eq_true rfl⟩ (Nat.le_of_ble_eq_true rfl) rfl dL_law_575 h (Or.inl rfl) (fun v4 σ5 e6 => ?_)
  have h := e6
  refine g_aload_n dL_law_578 rfl rfl ?_
  refine g_aload_n dL_law_579 rfl rfl ?_
  refine g_iload_n dL_law_580 rfl rfl ?_
  refine g_iconst dL_law_581 (by decide) ?_
  refine g_iadd dL_law_582 p1 ?_
  refine g_sld rfl p2 p3 dL_law_583 ?_
  refine g_invVI (as := [.inl (f ((x3 + 1)).toNat)]) (rest := [.inl v4]) okX11_put mlL_66 (by decide) rfl ⟨_, _, rfl⟩ rfl ⟨Nat.le_of_ble_eq_true rfl, Nat.le_of_ble_eq_true rfl⟩ (Nat.le_of_ble_eq_true rfl) rfl dL_law_584 h (Or.inl rfl) (fun v7 σ8 e9 => ?_)
  have h := e9
  refine g_icmp_eq (tgt := 901) dL_law_587 (by decide) (fun c10 => ?_) (fun c10 => ?_)
  · have h := h.1 c10
    obtain ⟨p11, h⟩ := h
    refine g_iinc (ls' := [some (.inr 95), some (.inr 0), some (.inr 73), some (.inl (x3 + 5))]) dL_law_901 (by decide) rfl p11 rfl ?_
    refine g_goto (tgt := 18) dL_law_904 (by decide) ?_
    exact h
  · have h := h.2 c10
    refine g_iconst dL_law_590 (by decide) ?_
    exact g_zreturn rfl dL_law_591 (by decide) h
set_option maxRecDepth 100000 in
set_option maxHeartbeats 4000000 in
theorem rL_law_592 {L : Nat} {f : Nat → Int} {x3 : Int} {σ : Mem} {Q : Int → Mem → Prop} (h : CM mX10_places [.inr 0] σ (fun v1 σ2 => CM mX11_places [.inr 73] σ2 (fun v4 σ5 => (v1 = v4 → ((inR (x3 + 5)) ∧ (GO (some (L, f)) mL_law 18 [some (.inr 95), some (.inr 0), some (.inr 73), some (.inl (x3 + 5))] [] σ5 Q))) ∧ (v1 ≠ v4 → Q 0 σ5)))) : GO (some (L, f)) mL_law 592 [some (.inr 95), some (.inr 0), some (.inr 73), some (.inl x3)] [] σ Q := by
  refine g_aload_n dL_law_592 rfl rfl ?_
  refine g_invVI (as := []) (rest := []) okX10_places mlL_67 (by decide) rfl ⟨_, _, rfl⟩ rfl ⟨Nat.le_of_ble_eq_true rfl, Nat.le_of_ble_eq_true rfl⟩ (Nat.le_of_ble_eq_true rfl) rfl dL_law_593 h (Or.inl rfl) (fun v1 σ2 e3 => ?_)
  have h := e3
  refine g_aload_n dL_law_596 rfl rfl ?_
  refine g_invVI (as := []) (rest := [.inl v1]) okX11_places mlL_70 (by decide) rfl ⟨_, _, rfl⟩ rfl ⟨Nat.le_of_ble_eq_true rfl, Nat.le_of_ble_eq_true rfl⟩ (Nat.le_of_ble_eq_true rfl) rfl dL_law_597 h (Or.inl rfl) (fun v4 σ5 e6 => ?_)
  have h := e6
  refine g_icmp_eq (tgt := 901) dL_law_600 (by decide) (fun c7 => ?_) (fun c7 => ?_)
  · have h := h.1 c7
    obtain ⟨p8, h⟩ := h
    refine g_iinc (ls' := [some (.inr 95), some (.inr 0), some (.inr 73), some (.inl (x3 + 5))]) dL_law_901 (by decide) rfl p8 rfl ?_
    refine g_goto (tgt := 18) dL_law_904 (by decide) ?_
    exact h
  · have h := h.2 c7
    refine g_iconst dL_law_603 (by decide) ?_
    exact g_zreturn rfl dL_law_604 (by decide) h
set_option maxRecDepth 100000 in
set_option maxHeartbeats 4000000 in
theorem rL_law_605 {L : Nat} {f : Nat → Int} {x3 : Int} {σ : Mem} {Q : Int → Mem → Prop} (h : ((inR (x3 + 1)) ∧ (((0 ≤ (x3 + 1)) ∧ ((((x3 + 1) < (L : Int)) ∧ (CM mX10_cost [.inr 0, .inl (f ((x3 + 1)).toNat)] σ (fun v4 σ5 => CM mX11_cost [.inr 73, .inl (f ((x3 + 1)).toNat)] σ5 (fun v7 σ8 => (v4 = v7 → ((inR (x3 + 5)) ∧ (GO (some (L, f)) mL_law 18 [some (.inr 95), some (.inr 0), some (.inr 73), some (.inl (x3 + 5))] [] σ8 Q))) ∧ (v4 ≠ v7 → Q 0 σ8)))))))))) : GO (some (L, f)) mL_law 605 [some (.inr 95), some (.inr 0), some (.inr 73), some (.inl x3)] [] σ Q := by
  refine g_aload_n dL_law_605 rfl rfl ?_
  refine g_aload_n dL_law_606 rfl rfl ?_
  refine g_iload_n dL_law_607 rfl rfl ?_
  refine g_iconst dL_law_608 (by decide) ?_
  obtain ⟨p1, h⟩ := h
  refine g_iadd dL_law_609 p1 ?_
  obtain ⟨p2, h⟩ := h
  obtain ⟨p3, h⟩ := h
  refine g_sld rfl p2 p3 dL_law_610 ?_
  refine g_invVI (as := [.inl (f ((x3 + 1)).toNat)]) (rest := []) okX10_cost mlL_71 (by decide) rfl ⟨_, _, rfl⟩ rfl ⟨Nat.le_of_ble_eq_true rfl, Nat.le_of_ble_eq_true rfl⟩ (Nat.le_of_ble_eq_true rfl) rfl dL_law_611 h (Or.inl rfl) (fun v4 σ5 e6 => ?_)
  have h := e6
  refine g_aload_n dL_law_614 rfl rfl ?_
  refine g_aload_n dL_law_615 rfl rfl ?_
  refine g_iload_n dL_law_616 rfl rfl ?_
  refine g_iconst dL_law_617 (by decide) ?_
  refine g_iadd dL_law_618 p1 ?_
  refine g_sld rfl p2 p3 dL_law_619 ?_
  refine g_invVI (as := [.inl (f ((x3 + 1)).toNat)]) (rest := [.inl v4]) okX11_cost mlL_74 (by decide) rfl ⟨_, _, rfl⟩ rfl ⟨Nat.le_of_ble_eq_true rfl, Nat.le_of_ble_eq_true rfl⟩ (Nat.le_of_ble_eq_true rfl) rfl dL_law_620 h (Or.inl rfl) (fun v7 σ8 e9 => ?_)
  have h := e9
  refine g_icmp_eq (tgt := 901) dL_law_623 (by decide) (fun c10 => ?_) (fun c10 => ?_)
  · have h := h.1 c10
    obtain ⟨p11, h⟩ := h
    refine g_iinc (ls' := [some (.inr 95), some (.inr 0), some (.inr 73), some (.inl (x3 + 5))]) dL_law_901 (by decide) rfl p11 rfl ?_
    refine g_goto (tgt := 18) dL_law_904 (by decide) ?_
    exact h
  · have h := h.2 c10
    refine g_iconst dL_law_626 (by decide) ?_
    exact g_zreturn rfl dL_law_627 (by decide) h
set_option maxRecDepth 100000 in
set_option maxHeartbeats 4000000 in
theorem rL_law_628 {L : Nat} {f : Nat → Int} {x3 : Int} {σ : Mem} {Q : Int → Mem → Prop} (h : ((inR (x3 + 1)) ∧ (((0 ≤ (x3 + 1)) ∧ ((((x3 + 1) < (L : Int)) ∧ (CM mX10_best [.inr 0, .inl (f ((x3 + 1)).toNat)] σ (fun v4 σ5 => CM mX11_best [.inr 73, .inl (f ((x3 + 1)).toNat)] σ5 (fun v7 σ8 => (v4 = v7 → ((inR (x3 + 5)) ∧ (GO (some (L, f)) mL_law 18 [some (.inr 95), some (.inr 0), some (.inr 73), some (.inl (x3 + 5))] [] σ8 Q))) ∧ (v4 ≠ v7 → Q 0 σ8)))))))))) : GO (some (L, f)) mL_law 628 [some (.inr 95), some (.inr 0), some (.inr 73), some (.inl x3)] [] σ Q := by
  refine g_aload_n dL_law_628 rfl rfl ?_
  refine g_aload_n dL_law_629 rfl rfl ?_
  refine g_iload_n dL_law_630 rfl rfl ?_
  refine g_iconst dL_law_631 (by decide) ?_
  obtain ⟨p1, h⟩ := h
  refine g_iadd dL_law_632 p1 ?_
  obtain ⟨p2, h⟩ := h
  obtain ⟨p3, h⟩ := h
  refine g_sld rfl p2 p3 dL_law_633 ?_
  refine g_invVI (as := [.inl (f ((x3 + 1)).toNat)]) (rest := []) okX10_best mlL_75 (by decide) rfl ⟨_, _, rfl⟩ rfl ⟨Nat.le_of_ble_eq_true rfl, Nat.le_of_ble_eq_true rfl⟩ (Nat.le_of_ble_eq_true rfl) rfl dL_law_634 h (Or.inl rfl) (fun v4 σ5 e6 => ?_)
  have h := e6
  refine g_aload_n dL_law_637 rfl rfl ?_
  refine g_aload_n dL_law_638 rfl rfl ?_
  refine g_iload_n dL_law_639 rfl rfl ?_
  refine g_iconst dL_law_640 (by decide) ?_
  refine g_iadd dL_law_641 p1 ?_
  refine g_sld rfl p2 p3 dL_law_642 ?_
  refine g_invVI (as := [.inl (f ((x3 + 1)).toNat)]) (rest := [.inl v4]) okX11_best mlL_78 (by decide) rfl ⟨_, _, rfl⟩ rfl ⟨Nat.le_of_ble_eq_true rfl, Nat.le_of_ble_eq_true rfl⟩ (Nat.le_of_ble_eq_true rfl) rfl dL_law_643 h (Or.inl rfl) (fun v7 σ8 e9 => ?_)
  have h := e9
  refine g_icmp_eq (tgt := 901) dL_law_646 (by decide) (fun c10 => ?_) (fun c10 => ?_)
  · have h := h.1 c10
    obtain ⟨p11, h⟩ := h
    refine g_iinc (ls' := [some (.inr 95), some (.inr 0), some (.inr 73), some (.inl (x3 + 5))]) dL_law_901 (by decide) rfl p11 rfl ?_
    refine g_goto (tgt := 18) dL_law_904 (by decide) ?_
    exact h
  · have h := h.2 c10
    refine g_iconst dL_law_649 (by decide) ?_
    exact g_zreturn rfl dL_law_650 (by decide) h
set_option maxRecDepth 100000 in
set_option maxHeartbeats 4000000 in
theorem rL_law_651 {L : Nat} {f : Nat → Int} {x3 : Int} {σ : Mem} {Q : Int → Mem → Prop} (h : ((inR (x3 + 1)) ∧ (((0 ≤ (x3 + 1)) ∧ ((((x3 + 1) < (L : Int)) ∧ (CM mX10_many [.inr 0, .inl (f ((x3 + 1)).toNat)] σ (fun v4 σ5 => CM mX11_many [.inr 73, .inl (f ((x3 + 1)).toNat)] σ5 (fun v7 σ8 => (v4 = v7 → ((inR (x3 + 5)) ∧ (GO (some (L, f)) mL_law 18 [some (.inr 95), some (.inr 0), some (.inr 73), some (.inl (x3 + 5))] [] σ8 Q))) ∧ (v4 ≠ v7 → Q 0 σ8)))))))))) : GO (some (L, f)) mL_law 651 [some (.inr 95), some (.inr 0), some (.inr 73), some (.inl x3)] [] σ Q := by
  refine g_aload_n dL_law_651 rfl rfl ?_
  refine g_aload_n dL_law_652 rfl rfl ?_
  refine g_iload_n dL_law_653 rfl rfl ?_
  refine g_iconst dL_law_654 (by decide) ?_
  obtain ⟨p1, h⟩ := h
  refine g_iadd dL_law_655 p1 ?_
  obtain ⟨p2, h⟩ := h
  obtain ⟨p3, h⟩ := h
  refine g_sld rfl p2 p3 dL_law_656 ?_
  refine g_invVI (as := [.inl (f ((x3 + 1)).toNat)]) (rest := []) okX10_many mlL_79 (by decide) rfl ⟨_, _, rfl⟩ rfl ⟨Nat.le_of_ble_eq_true rfl, Nat.le_of_ble_eq_true rfl⟩ (Nat.le_of_ble_eq_true rfl) rfl dL_law_657 h (Or.inl rfl) (fun v4 σ5 e6 => ?_)
  have h := e6
  refine g_aload_n dL_law_660 rfl rfl ?_
  refine g_aload_n dL_law_661 rfl rfl ?_
  refine g_iload_n dL_law_662 rfl rfl ?_
  refine g_iconst dL_law_663 (by decide) ?_
  refine g_iadd dL_law_664 p1 ?_
  refine g_sld rfl p2 p3 dL_law_665 ?_
  refine g_invVI (as := [.inl (f ((x3 + 1)).toNat)]) (rest := [.inl v4]) okX11_many mlL_82 (by decide) rfl ⟨_, _, rfl⟩ rfl ⟨Nat.le_of_ble_eq_true rfl, Nat.le_of_ble_eq_true rfl⟩ (Nat.le_of_ble_eq_true rfl) rfl dL_law_666 h (Or.inl rfl) (fun v7 σ8 e9 => ?_)
  have h := e9
  refine g_icmp_eq (tgt := 901) dL_law_669 (by decide) (fun c10 => ?_) (fun c10 => ?_)
  · have h := h.1 c10
    obtain ⟨p11, h⟩ := h
    refine g_iinc (ls' := [some (.inr 95), some (.inr 0), some (.inr 73), some (.inl (x3 + 5))]) dL_law_901 (by decide) rfl p11 rfl ?_
    refine g_goto (tgt := 18) dL_law_904 (by decide) ?_
    exact h
  · have h := h.2 c10
    refine g_iconst dL_law_672 (by decide) ?_
    exact g_zreturn rfl dL_law_673 (by decide) h
set_option maxRecDepth 100000 in
set_option maxHeartbeats 4000000 in
theorem rL_law_674 {L : Nat} {f : Nat → Int} {x3 : Int} {σ : Mem} {Q : Int → Mem → Prop} (h : ((inR (x3 + 1)) ∧ (((0 ≤ (x3 + 1)) ∧ ((((x3 + 1) < (L : Int)) ∧ (CM mX10_take [.inr 0, .inl (f ((x3 + 1)).toNat)] σ (fun v4 σ5 => CM mX11_take [.inr 73, .inl (f ((x3 + 1)).toNat)] σ5 (fun v7 σ8 => (v4 = v7 → ((inR (x3 + 5)) ∧ (GO (some (L, f)) mL_law 18 [some (.inr 95), some (.inr 0), some (.inr 73), some (.inl (x3 + 5))] [] σ8 Q))) ∧ (v4 ≠ v7 → Q 0 σ8)))))))))) : GO (some (L, f)) mL_law 674 [some (.inr 95), some (.inr 0), some (.inr 73), some (.inl x3)] [] σ Q := by
  refine g_aload_n dL_law_674 rfl rfl ?_
  refine g_aload_n dL_law_675 rfl rfl ?_
  refine g_iload_n dL_law_676 rfl rfl ?_
  refine g_iconst dL_law_677 (by decide) ?_
  obtain ⟨p1, h⟩ := h
  refine g_iadd dL_law_678 p1 ?_
  obtain ⟨p2, h⟩ := h
  obtain ⟨p3, h⟩ := h
  refine g_sld rfl p2 p3 dL_law_679 ?_
  refine g_invVI (as := [.inl (f ((x3 + 1)).toNat)]) (rest := []) okX10_take mlL_83 (by decide) rfl ⟨_, _, rfl⟩ rfl ⟨Nat.le_of_ble_eq_true rfl, Nat.le_of_ble_eq_true rfl⟩ (Nat.le_of_ble_eq_true rfl) rfl dL_law_680 h (Or.inl rfl) (fun v4 σ5 e6 => ?_)
  have h := e6
  refine g_aload_n dL_law_683 rfl rfl ?_
  refine g_aload_n dL_law_684 rfl rfl ?_
  refine g_iload_n dL_law_685 rfl rfl ?_
  refine g_iconst dL_law_686 (by decide) ?_
  refine g_iadd dL_law_687 p1 ?_
  refine g_sld rfl p2 p3 dL_law_688 ?_
  refine g_invVI (as := [.inl (f ((x3 + 1)).toNat)]) (rest := [.inl v4]) okX11_take mlL_86 (by decide) rfl ⟨_, _, rfl⟩ rfl ⟨Nat.le_of_ble_eq_true rfl, Nat.le_of_ble_eq_true rfl⟩ (Nat.le_of_ble_eq_true rfl) rfl dL_law_689 h (Or.inl rfl) (fun v7 σ8 e9 => ?_)
  have h := e9
  refine g_icmp_eq (tgt := 901) dL_law_692 (by decide) (fun c10 => ?_) (fun c10 => ?_)
  · have h := h.1 c10
    obtain ⟨p11, h⟩ := h
    refine g_iinc (ls' := [some (.inr 95), some (.inr 0), some (.inr 73), some (.inl (x3 + 5))]) dL_law_901 (by decide) rfl p11 rfl ?_
    refine g_goto (tgt := 18) dL_law_904 (by decide) ?_
    exact h
  · have h := h.2 c10
    refine g_iconst dL_law_695 (by decide) ?_
    exact g_zreturn rfl dL_law_696 (by decide) h
set_option maxRecDepth 100000 in
set_option maxHeartbeats 4000000 in
theorem rL_law_697 {L : Nat} {f : Nat → Int} {x3 : Int} {σ : Mem} {Q : Int → Mem → Prop} (h : ((inR (x3 + 1)) ∧ (((0 ≤ (x3 + 1)) ∧ ((((x3 + 1) < (L : Int)) ∧ (CM mX10_floor [.inr 0, .inl (f ((x3 + 1)).toNat)] σ (fun v4 σ5 => CM mX11_floor [.inr 73, .inl (f ((x3 + 1)).toNat)] σ5 (fun v7 σ8 => (v4 = v7 → ((inR (x3 + 5)) ∧ (GO (some (L, f)) mL_law 18 [some (.inr 95), some (.inr 0), some (.inr 73), some (.inl (x3 + 5))] [] σ8 Q))) ∧ (v4 ≠ v7 → Q 0 σ8)))))))))) : GO (some (L, f)) mL_law 697 [some (.inr 95), some (.inr 0), some (.inr 73), some (.inl x3)] [] σ Q := by
  refine g_aload_n dL_law_697 rfl rfl ?_
  refine g_aload_n dL_law_698 rfl rfl ?_
  refine g_iload_n dL_law_699 rfl rfl ?_
  refine g_iconst dL_law_700 (by decide) ?_
  obtain ⟨p1, h⟩ := h
  refine g_iadd dL_law_701 p1 ?_
  obtain ⟨p2, h⟩ := h
  obtain ⟨p3, h⟩ := h
  refine g_sld rfl p2 p3 dL_law_702 ?_
  refine g_invVI (as := [.inl (f ((x3 + 1)).toNat)]) (rest := []) okX10_floor mlL_87 (by decide) rfl ⟨_, _, rfl⟩ rfl ⟨Nat.le_of_ble_eq_true rfl, Nat.le_of_ble_eq_true rfl⟩ (Nat.le_of_ble_eq_true rfl) rfl dL_law_703 h (Or.inl rfl) (fun v4 σ5 e6 => ?_)
  have h := e6
  refine g_aload_n dL_law_706 rfl rfl ?_
  refine g_aload_n dL_law_707 rfl rfl ?_
  refine g_iload_n dL_law_708 rfl rfl ?_
  refine g_iconst dL_law_709 (by decide) ?_
  refine g_iadd dL_law_710 p1 ?_
  refine g_sld rfl p2 p3 dL_law_711 ?_
  refine g_invVI (as := [.inl (f ((x3 + 1)).toNat)]) (rest := [.inl v4]) okX11_floor mlL_90 (by decide) rfl ⟨_, _, rfl⟩ rfl ⟨Nat.le_of_ble_eq_true rfl, Nat.le_of_ble_eq_true rfl⟩ (Nat.le_of_ble_eq_true rfl) rfl dL_law_712 h (Or.inl rfl) (fun v7 σ8 e9 => ?_)
  have h := e9
  refine g_icmp_eq (tgt := 901) dL_law_715 (by decide) (fun c10 => ?_) (fun c10 => ?_)
  · have h := h.1 c10
    obtain ⟨p11, h⟩ := h
    refine g_iinc (ls' := [some (.inr 95), some (.inr 0), some (.inr 73), some (.inl (x3 + 5))]) dL_law_901 (by decide) rfl p11 rfl ?_
    refine g_goto (tgt := 18) dL_law_904 (by decide) ?_
    exact h
  · have h := h.2 c10
    refine g_iconst dL_law_718 (by decide) ?_
    exact g_zreturn rfl dL_law_719 (by decide) h
set_option maxRecDepth 100000 in
set_option maxHeartbeats 4000000 in
theorem rL_law_720 {L : Nat} {f : Nat → Int} {x3 : Int} {σ : Mem} {Q : Int → Mem → Prop} (h : ((inR (x3 + 1)) ∧ (((0 ≤ (x3 + 1)) ∧ ((((x3 + 1) < (L : Int)) ∧ (CM mX10_settled [.inr 0, .inl (f ((x3 + 1)).toNat)] σ (fun v4 σ5 => CM mX11_settled [.inr 73, .inl (f ((x3 + 1)).toNat)] σ5 (fun v7 σ8 => (v4 = v7 → ((inR (x3 + 5)) ∧ (GO (some (L, f)) mL_law 18 [some (.inr 95), some (.inr 0), some (.inr 73), some (.inl (x3 + 5))] [] σ8 Q))) ∧ (v4 ≠ v7 → Q 0 σ8)))))))))) : GO (some (L, f)) mL_law 720 [some (.inr 95), some (.inr 0), some (.inr 73), some (.inl x3)] [] σ Q := by
  refine g_aload_n dL_law_720 rfl rfl ?_
  refine g_aload_n dL_law_721 rfl rfl ?_
  refine g_iload_n dL_law_722 rfl rfl ?_
  refine g_iconst dL_law_723 (by decide) ?_
  obtain ⟨p1, h⟩ := h
  refine g_iadd dL_law_724 p1 ?_
  obtain ⟨p2, h⟩ := h
  obtain ⟨p3, h⟩ := h
  refine g_sld rfl p2 p3 dL_law_725 ?_
  refine g_invVI (as := [.inl (f ((x3 + 1)).toNat)]) (rest := []) okX10_settled mlL_91 (by decide) rfl ⟨_, _, rfl⟩ rfl ⟨Nat.le_of_ble_eq_true rfl, Nat.le_of_ble_eq_true rfl⟩ (Nat.le_of_ble_eq_true rfl) rfl dL_law_726 h (Or.inl rfl) (fun v4 σ5 e6 => ?_)
  have h := e6
  refine g_aload_n dL_law_729 rfl rfl ?_
  refine g_aload_n dL_law_730 rfl rfl ?_
  refine g_iload_n dL_law_731 rfl rfl ?_
  refine g_iconst dL_law_732 (by decide) ?_
  refine g_iadd dL_law_733 p1 ?_
  refine g_sld rfl p2 p3 dL_law_734 ?_
  refine g_invVI (as := [.inl (f ((x3 + 1)).toNat)]) (rest := [.inl v4]) okX11_settled mlL_94 (by decide) rfl ⟨_, _, rfl⟩ rfl ⟨Nat.le_of_ble_eq_true rfl, Nat.le_of_ble_eq_true rfl⟩ (Nat.le_of_ble_eq_true rfl) rfl dL_law_735 h (Or.inl rfl) (fun v7 σ8 e9 => ?_)
  have h := e9
  refine g_icmp_eq (tgt := 901) dL_law_738 (by decide) (fun c10 => ?_) (fun c10 => ?_)
  · have h := h.1 c10
    obtain ⟨p11, h⟩ := h
    refine g_iinc (ls' := [some (.inr 95), some (.inr 0), some (.inr 73), some (.inl (x3 + 5))]) dL_law_901 (by decide) rfl p11 rfl ?_
    refine g_goto (tgt := 18) dL_law_904 (by decide) ?_
    exact h
  · have h := h.2 c10
    refine g_iconst dL_law_741 (by decide) ?_
    exact g_zreturn rfl dL_law_742 (by decide) h
set_option maxRecDepth 100000 in
set_option maxHeartbeats 4000000 in
theorem rL_law_743 {L : Nat} {f : Nat → Int} {x3 : Int} {σ : Mem} {Q : Int → Mem → Prop} (h : ((inR (x3 + 1)) ∧ (((0 ≤ (x3 + 1)) ∧ ((((x3 + 1) < (L : Int)) ∧ (CM mX10_climb [.inr 0, .inl (f ((x3 + 1)).toNat)] σ (fun v4 σ5 => CM mX11_climb [.inr 73, .inl (f ((x3 + 1)).toNat)] σ5 (fun v7 σ8 => (v4 = v7 → ((inR (x3 + 5)) ∧ (GO (some (L, f)) mL_law 18 [some (.inr 95), some (.inr 0), some (.inr 73), some (.inl (x3 + 5))] [] σ8 Q))) ∧ (v4 ≠ v7 → Q 0 σ8)))))))))) : GO (some (L, f)) mL_law 743 [some (.inr 95), some (.inr 0), some (.inr 73), some (.inl x3)] [] σ Q := by
  refine g_aload_n dL_law_743 rfl rfl ?_
  refine g_aload_n dL_law_744 rfl rfl ?_
  refine g_iload_n dL_law_745 rfl rfl ?_
  refine g_iconst dL_law_746 (by decide) ?_
  obtain ⟨p1, h⟩ := h
  refine g_iadd dL_law_747 p1 ?_
  obtain ⟨p2, h⟩ := h
  obtain ⟨p3, h⟩ := h
  refine g_sld rfl p2 p3 dL_law_748 ?_
  refine g_invVI (as := [.inl (f ((x3 + 1)).toNat)]) (rest := []) okX10_climb mlL_95 (by decide) rfl ⟨_, _, rfl⟩ rfl ⟨Nat.le_of_ble_eq_true rfl, Nat.le_of_ble_eq_true rfl⟩ (Nat.le_of_ble_eq_true rfl) rfl dL_law_749 h (Or.inl rfl) (fun v4 σ5 e6 => ?_)
  have h := e6
  refine g_aload_n dL_law_752 rfl rfl ?_
  refine g_aload_n dL_law_753 rfl rfl ?_
  refine g_iload_n dL_law_754 rfl rfl ?_
  refine g_iconst dL_law_755 (by decide) ?_
  refine g_iadd dL_law_756 p1 ?_
  refine g_sld rfl p2 p3 dL_law_757 ?_
  refine g_invVI (as := [.inl (f ((x3 + 1)).toNat)]) (rest := [.inl v4]) okX11_climb mlL_98 (by decide) rfl ⟨_, _, rfl⟩ rfl ⟨Nat.le_of_ble_eq_true rfl, Nat.le_of_ble_eq_true rfl⟩ (Nat.le_of_ble_eq_true rfl) rfl dL_law_758 h (Or.inl rfl) (fun v7 σ8 e9 => ?_)
  have h := e9
  refine g_icmp_eq (tgt := 901) dL_law_761 (by decide) (fun c10 => ?_) (fun c10 => ?_)
  · have h := h.1 c10
    obtain ⟨p11, h⟩ := h
    refine g_iinc (ls' := [some (.inr 95), some (.inr 0), some (.inr 73), some (.inl (x3 + 5))]) dL_law_901 (by decide) rfl p11 rfl ?_
    refine g_goto (tgt := 18) dL_law_904 (by decide) ?_
    exact h
  · have h := h.2 c10
    refine g_iconst dL_law_764 (by decide) ?_
    exact g_zreturn rfl dL_law_765 (by decide) h
set_option maxRecDepth 100000 in
set_option maxHeartbeats 4000000 in
theorem rL_law_766 {L : Nat} {f : Nat → Int} {x3 : Int} {σ : Mem} {Q : Int → Mem → Prop} (h : ((inR (x3 + 1)) ∧ (((0 ≤ (x3 + 1)) ∧ ((((x3 + 1) < (L : Int)) ∧ (CM mX10_move [.inr 0, .inl (f ((x3 + 1)).toNat)] σ (fun v4 σ5 => CM mX11_move [.inr 73, .inl (f ((x3 + 1)).toNat)] σ5 (fun v7 σ8 => (v4 = v7 → ((inR (x3 + 5)) ∧ (GO (some (L, f)) mL_law 18 [some (.inr 95), some (.inr 0), some (.inr 73), some (.inl (x3 + 5))] [] σ8 Q))) ∧ (v4 ≠ v7 → Q 0 σ8)))))))))) : GO (some (L, f)) mL_law 766 [some (.inr 95), some (.inr 0), some (.inr 73), some (.inl x3)] [] σ Q := by
  refine g_aload_n dL_law_766 rfl rfl ?_
  refine g_aload_n dL_law_767 rfl rfl ?_
  refine g_iload_n dL_law_768 rfl rfl ?_
  refine g_iconst dL_law_769 (by decide) ?_
  obtain ⟨p1, h⟩ := h
  refine g_iadd dL_law_770 p1 ?_
  obtain ⟨p2, h⟩ := h
  obtain ⟨p3, h⟩ := h
  refine g_sld rfl p2 p3 dL_law_771 ?_
  refine g_invVI (as := [.inl (f ((x3 + 1)).toNat)]) (rest := []) okX10_move mlL_99 (by decide) rfl ⟨_, _, rfl⟩ rfl ⟨Nat.le_of_ble_eq_true rfl, Nat.le_of_ble_eq_true rfl⟩ (Nat.le_of_ble_eq_true rfl) rfl dL_law_772 h (Or.inl rfl) (fun v4 σ5 e6 => ?_)
  have h := e6
  refine g_aload_n dL_law_775 rfl rfl ?_
  refine g_aload_n dL_law_776 rfl rfl ?_
  refine g_iload_n dL_law_777 rfl rfl ?_
  refine g_iconst dL_law_778 (by decide) ?_
  refine g_iadd dL_law_779 p1 ?_
  refine g_sld rfl p2 p3 dL_law_780 ?_
  refine g_invVI (as := [.inl (f ((x3 + 1)).toNat)]) (rest := [.inl v4]) okX11_move mlL_102 (by decide) rfl ⟨_, _, rfl⟩ rfl ⟨Nat.le_of_ble_eq_true rfl, Nat.le_of_ble_eq_true rfl⟩ (Nat.le_of_ble_eq_true rfl) rfl dL_law_781 h (Or.inl rfl) (fun v7 σ8 e9 => ?_)
  have h := e9
  refine g_icmp_eq (tgt := 901) dL_law_784 (by decide) (fun c10 => ?_) (fun c10 => ?_)
  · have h := h.1 c10
    obtain ⟨p11, h⟩ := h
    refine g_iinc (ls' := [some (.inr 95), some (.inr 0), some (.inr 73), some (.inl (x3 + 5))]) dL_law_901 (by decide) rfl p11 rfl ?_
    refine g_goto (tgt := 18) dL_law_904 (by decide) ?_
    exact h
  · have h := h.2 c10
    refine g_iconst dL_law_787 (by decide) ?_
    exact g_zreturn rfl dL_law_788 (by decide) h
set_option maxRecDepth 100000 in
set_option maxHeartbeats 4000000 in
theorem rL_law_789 {L : Nat} {f : Nat → Int} {x3 : Int} {σ : Mem} {Q : Int → Mem → Prop} (h : ((inR (x3 + 1)) ∧ (((0 ≤ (x3 + 1)) ∧ ((((x3 + 1) < (L : Int)) ∧ (((inR (x3 + 2)) ∧ (((0 ≤ (x3 + 2)) ∧ ((((x3 + 2) < (L : Int)) ∧ (CM mX10_step [.inr 0, .inl (f ((x3 + 1)).toNat), .inl (f ((x3 + 2)).toNat)] σ (fun v7 σ8 => CM mX11_step [.inr 73, .inl (f ((x3 + 1)).toNat), .inl (f ((x3 + 2)).toNat)] σ8 (fun v10 σ11 => (v7 = v10 → ((inR (x3 + 5)) ∧ (GO (some (L, f)) mL_law 18 [some (.inr 95), some (.inr 0), some (.inr 73), some (.inl (x3 + 5))] [] σ11 Q))) ∧ (v7 ≠ v10 → Q 0 σ11)))))))))))))))) : GO (some (L, f)) mL_law 789 [some (.inr 95), some (.inr 0), some (.inr 73), some (.inl x3)] [] σ Q := by
  refine g_aload_n dL_law_789 rfl rfl ?_
  refine g_aload_n dL_law_790 rfl rfl ?_
  refine g_iload_n dL_law_791 rfl rfl ?_
  refine g_iconst dL_law_792 (by decide) ?_
  obtain ⟨p1, h⟩ := h
  refine g_iadd dL_law_793 p1 ?_
  obtain ⟨p2, h⟩ := h
  obtain ⟨p3, h⟩ := h
  refine g_sld rfl p2 p3 dL_law_794 ?_
  refine g_aload_n dL_law_795 rfl rfl ?_
  refine g_iload_n dL_law_796 rfl rfl ?_
  refine g_iconst dL_law_797 (by decide) ?_
  obtain ⟨p4, h⟩ := h
  refine g_iadd dL_law_798 p4 ?_
  obtain ⟨p5, h⟩ := h
  obtain ⟨p6, h⟩ := h
  refine g_sld rfl p5 p6 dL_law_799 ?_
  refine g_invVI (as := [.inl (f ((x3 + 1)).toNat), .inl (f ((x3 + 2)).toNat)]) (rest := []) okX10_step mlL_103 (by decide) rfl ⟨_, _, rfl⟩ rfl ⟨Nat.le_of_ble_eq_true rfl, Nat.le_of_ble_eq_true rfl⟩ (Nat.le_of_ble_eq_true rfl) rfl dL_law_800 h (Or.inl rfl) (fun v7 σ8 e9 => ?_)
  have h := e9
  refine g_aload_n dL_law_803 rfl rfl ?_
  refine g_aload_n dL_law_804 rfl rfl ?_
  refine g_iload_n dL_law_805 rfl rfl ?_
  refine g_iconst dL_law_806 (by decide) ?_
  refine g_iadd dL_law_807 p1 ?_
  refine g_sld rfl p2 p3 dL_law_808 ?_
  refine g_aload_n dL_law_809 rfl rfl ?_
  refine g_iload_n dL_law_810 rfl rfl ?_
  refine g_iconst dL_law_811 (by decide) ?_
  refine g_iadd dL_law_812 p4 ?_
  refine g_sld rfl p5 p6 dL_law_813 ?_
  refine g_invVI (as := [.inl (f ((x3 + 1)).toNat), .inl (f ((x3 + 2)).toNat)]) (rest := [.inl v7]) okX11_step mlL_106 (by decide) rfl ⟨_, _, rfl⟩ rfl ⟨Nat.le_of_ble_eq_true rfl, Nat.le_of_ble_eq_true rfl⟩ (Nat.le_of_ble_eq_true rfl) rfl dL_law_814 h (Or.inl rfl) (fun v10 σ11 e12 => ?_)
  have h := e12
  refine g_icmp_eq (tgt := 901) dL_law_817 (by decide) (fun c13 => ?_) (fun c13 => ?_)
  · have h := h.1 c13
    obtain ⟨p14, h⟩ := h
    refine g_iinc (ls' := [some (.inr 95), some (.inr 0), some (.inr 73), some (.inl (x3 + 5))]) dL_law_901 (by decide) rfl p14 rfl ?_
    refine g_goto (tgt := 18) dL_law_904 (by decide) ?_
    exact h
  · have h := h.2 c13
    refine g_iconst dL_law_820 (by decide) ?_
    exact g_zreturn rfl dL_law_821 (by decide) h
set_option maxRecDepth 100000 in
set_option maxHeartbeats 4000000 in
theorem rL_law_822 {L : Nat} {f : Nat → Int} {x3 : Int} {σ : Mem} {Q : Int → Mem → Prop} (h : ((inR (x3 + 1)) ∧ (((0 ≤ (x3 + 1)) ∧ ((((x3 + 1) < (L : Int)) ∧ (CM mX10_plan [.inr 0, .inl (f ((x3 + 1)).toNat)] σ (fun v4 σ5 => CM mX11_plan [.inr 73, .inl (f ((x3 + 1)).toNat)] σ5 (fun v7 σ8 => (v4 = v7 → ((inR (x3 + 5)) ∧ (GO (some (L, f)) mL_law 18 [some (.inr 95), some (.inr 0), some (.inr 73), some (.inl (x3 + 5))] [] σ8 Q))) ∧ (v4 ≠ v7 → Q 0 σ8)))))))))) : GO (some (L, f)) mL_law 822 [some (.inr 95), some (.inr 0), some (.inr 73), some (.inl x3)] [] σ Q := by
  refine g_aload_n dL_law_822 rfl rfl ?_
  refine g_aload_n dL_law_823 rfl rfl ?_
  refine g_iload_n dL_law_824 rfl rfl ?_
  refine g_iconst dL_law_825 (by decide) ?_
  obtain ⟨p1, h⟩ := h
  refine g_iadd dL_law_826 p1 ?_
  obtain ⟨p2, h⟩ := h
  obtain ⟨p3, h⟩ := h
  refine g_sld rfl p2 p3 dL_law_827 ?_
  refine g_invVI (as := [.inl (f ((x3 + 1)).toNat)]) (rest := []) okX10_plan mlL_107 (by decide) rfl ⟨_, _, rfl⟩ rfl ⟨Nat.le_of_ble_eq_true rfl, Nat.le_of_ble_eq_true rfl⟩ (Nat.le_of_ble_eq_true rfl) rfl dL_law_828 h (Or.inl rfl) (fun v4 σ5 e6 => ?_)
  have h := e6
  refine g_aload_n dL_law_831 rfl rfl ?_
  refine g_aload_n dL_law_832 rfl rfl ?_
  refine g_iload_n dL_law_833 rfl rfl ?_
  refine g_iconst dL_law_834 (by decide) ?_
  refine g_iadd dL_law_835 p1 ?_
  refine g_sld rfl p2 p3 dL_law_836 ?_
  refine g_invVI (as := [.inl (f ((x3 + 1)).toNat)]) (rest := [.inl v4]) okX11_plan mlL_110 (by decide) rfl ⟨_, _, rfl⟩ rfl ⟨Nat.le_of_ble_eq_true rfl, Nat.le_of_ble_eq_true rfl⟩ (Nat.le_of_ble_eq_true rfl) rfl dL_law_837 h (Or.inl rfl) (fun v7 σ8 e9 => ?_)
  have h := e9
  refine g_icmp_eq (tgt := 901) dL_law_840 (by decide) (fun c10 => ?_) (fun c10 => ?_)
  · have h := h.1 c10
    obtain ⟨p11, h⟩ := h
    refine g_iinc (ls' := [some (.inr 95), some (.inr 0), some (.inr 73), some (.inl (x3 + 5))]) dL_law_901 (by decide) rfl p11 rfl ?_
    refine g_goto (tgt := 18) dL_law_904 (by decide) ?_
    exact h
  · have h := h.2 c10
    refine g_iconst dL_law_843 (by decide) ?_
    exact g_zreturn rfl dL_law_844 (by decide) h
set_option maxRecDepth 100000 in
set_option maxHeartbeats 4000000 in
theorem rL_law_845 {L : Nat} {f : Nat → Int} {x3 : Int} {σ : Mem} {Q : Int → Mem → Prop} (h : ((inR (x3 + 1)) ∧ (((0 ≤ (x3 + 1)) ∧ ((((x3 + 1) < (L : Int)) ∧ (((inR (x3 + 2)) ∧ (((0 ≤ (x3 + 2)) ∧ ((((x3 + 2) < (L : Int)) ∧ (CM mX10_planned [.inr 0, .inl (f ((x3 + 1)).toNat), .inl (f ((x3 + 2)).toNat)] σ (fun v7 σ8 => CM mX11_planned [.inr 73, .inl (f ((x3 + 1)).toNat), .inl (f ((x3 + 2)).toNat)] σ8 (fun v10 σ11 => (v7 = v10 → ((inR (x3 + 5)) ∧ (GO (some (L, f)) mL_law 18 [some (.inr 95), some (.inr 0), some (.inr 73), some (.inl (x3 + 5))] [] σ11 Q))) ∧ (v7 ≠ v10 → Q 0 σ11)))))))))))))))) : GO (some (L, f)) mL_law 845 [some (.inr 95), some (.inr 0), some (.inr 73), some (.inl x3)] [] σ Q := by
  refine g_aload_n dL_law_845 rfl rfl ?_
  refine g_aload_n dL_law_846 rfl rfl ?_
  refine g_iload_n dL_law_847 rfl rfl ?_
  refine g_iconst dL_law_848 (by decide) ?_
  obtain ⟨p1, h⟩ := h
  refine g_iadd dL_law_849 p1 ?_
  obtain ⟨p2, h⟩ := h
  obtain ⟨p3, h⟩ := h
  refine g_sld rfl p2 p3 dL_law_850 ?_
  refine g_aload_n dL_law_851 rfl rfl ?_
  refine g_iload_n dL_law_852 rfl rfl ?_
  refine g_iconst dL_law_853 (by decide) ?_
  obtain ⟨p4, h⟩ := h
  refine g_iadd dL_law_854 p4 ?_
  obtain ⟨p5, h⟩ := h
  obtain ⟨p6, h⟩ := h
  refine g_sld rfl p5 p6 dL_law_855 ?_
  refine g_invVI (as := [.inl (f ((x3 + 1)).toNat), .inl (f ((x3 + 2)).toNat)]) (rest := []) okX10_planned mlL_111 (by decide) rfl ⟨_, _, rfl⟩ rfl ⟨Nat.le_of_ble_eq_true rfl, Nat.le_of_ble_eq_true rfl⟩ (Nat.le_of_ble_eq_true rfl) rfl dL_law_856 h (Or.inl rfl) (fun v7 σ8 e9 => ?_)
  have h := e9
  refine g_aload_n dL_law_859 rfl rfl ?_
  refine g_aload_n dL_law_860 rfl rfl ?_
  refine g_iload_n dL_law_861 rfl rfl ?_
  refine g_iconst dL_law_862 (by decide) ?_
  refine g_iadd dL_law_863 p1 ?_
  refine g_sld rfl p2 p3 dL_law_864 ?_
  refine g_aload_n dL_law_865 rfl rfl ?_
  refine g_iload_n dL_law_866 rfl rfl ?_
  refine g_iconst dL_law_867 (by decide) ?_
  refine g_iadd dL_law_868 p4 ?_
  refine g_sld rfl p5 p6 dL_law_869 ?_
  refine g_invVI (as := [.inl (f ((x3 + 1)).toNat), .inl (f ((x3 + 2)).toNat)]) (rest := [.inl v7]) okX11_planned mlL_114 (by decide) rfl ⟨_, _, rfl⟩ rfl ⟨Nat.le_of_ble_eq_true rfl, Nat.le_of_ble_eq_true rfl⟩ (Nat.le_of_ble_eq_true rfl) rfl dL_law_870 h (Or.inl rfl) (fun v10 σ11 e12 => ?_)
  have h := e12
  refine g_icmp_eq (tgt := 901) dL_law_873 (by decide) (fun c13 => ?_) (fun c13 => ?_)
  · have h := h.1 c13
    obtain ⟨p14, h⟩ := h
    refine g_iinc (ls' := [some (.inr 95), some (.inr 0), some (.inr 73), some (.inl (x3 + 5))]) dL_law_901 (by decide) rfl p14 rfl ?_
    refine g_goto (tgt := 18) dL_law_904 (by decide) ?_
    exact h
  · have h := h.2 c13
    refine g_iconst dL_law_876 (by decide) ?_
    exact g_zreturn rfl dL_law_877 (by decide) h
set_option maxRecDepth 100000 in
set_option maxHeartbeats 4000000 in
theorem rL_law_878 {L : Nat} {f : Nat → Int} {x3 : Int} {σ : Mem} {Q : Int → Mem → Prop} (h : ((inR (x3 + 1)) ∧ (((0 ≤ (x3 + 1)) ∧ ((((x3 + 1) < (L : Int)) ∧ (CM mX10_count [.inr 0, .inl (f ((x3 + 1)).toNat)] σ (fun v4 σ5 => CM mX11_count [.inr 73, .inl (f ((x3 + 1)).toNat)] σ5 (fun v7 σ8 => (v4 = v7 → ((inR (x3 + 5)) ∧ (GO (some (L, f)) mL_law 18 [some (.inr 95), some (.inr 0), some (.inr 73), some (.inl (x3 + 5))] [] σ8 Q))) ∧ (v4 ≠ v7 → Q 0 σ8)))))))))) : GO (some (L, f)) mL_law 878 [some (.inr 95), some (.inr 0), some (.inr 73), some (.inl x3)] [] σ Q := by
  refine g_aload_n dL_law_878 rfl rfl ?_
  refine g_aload_n dL_law_879 rfl rfl ?_
  refine g_iload_n dL_law_880 rfl rfl ?_
  refine g_iconst dL_law_881 (by decide) ?_
  obtain ⟨p1, h⟩ := h
  refine g_iadd dL_law_882 p1 ?_
  obtain ⟨p2, h⟩ := h
  obtain ⟨p3, h⟩ := h
  refine g_sld rfl p2 p3 dL_law_883 ?_
  refine g_invVI (as := [.inl (f ((x3 + 1)).toNat)]) (rest := []) okX10_count mlL_115 (by decide) rfl ⟨_, _, rfl⟩ rfl ⟨Nat.le_of_ble_eq_true rfl, Nat.le_of_ble_eq_true rfl⟩ (Nat.le_of_ble_eq_true rfl) rfl dL_law_884 h (Or.inl rfl) (fun v4 σ5 e6 => ?_)
  have h := e6
  refine g_aload_n dL_law_887 rfl rfl ?_
  refine g_aload_n dL_law_888 rfl rfl ?_
  refine g_iload_n dL_law_889 rfl rfl ?_
  refine g_iconst dL_law_890 (by decide) ?_
  refine g_iadd dL_law_891 p1 ?_
  refine g_sld rfl p2 p3 dL_law_892 ?_
  refine g_invVI (as := [.inl (f ((x3 + 1)).toNat)]) (rest := [.inl v4]) okX11_count mlL_118 (by decide) rfl ⟨_, _, rfl⟩ rfl ⟨Nat.le_of_ble_eq_true rfl, Nat.le_of_ble_eq_true rfl⟩ (Nat.le_of_ble_eq_true rfl) rfl dL_law_893 h (Or.inl rfl) (fun v7 σ8 e9 => ?_)
  have h := e9
  refine g_icmp_eq (tgt := 901) dL_law_896 (by decide) (fun c10 => ?_) (fun c10 => ?_)
  · have h := h.1 c10
    obtain ⟨p11, h⟩ := h
    refine g_iinc (ls' := [some (.inr 95), some (.inr 0), some (.inr 73), some (.inl (x3 + 5))]) dL_law_901 (by decide) rfl p11 rfl ?_
    refine g_goto (tgt := 18) dL_law_904 (by decide) ?_
    exact h
  · have h := h.2 c10
    refine g_iconst dL_law_899 (by decide) ?_
    exact g_zreturn rfl dL_law_900 (by decide) h
