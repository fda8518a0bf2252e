/-! ===== what a walk stands on beside the instructions ===== -/
def isRow (k n : Nat) : Prop := k < NC ∧ k + 1 < NC ∧ shp k = (7, 1) ∧ rfs k 0 = some (k + 1) ∧ shp (k + 1) = (12, n)
def isSeats (k : Nat) : Prop := k < NC ∧ shp k = (8, 2) ∧ rfs k 0 = some (k + 1) ∧ rfs k 1 = none ∧ isRow (k + 1) 5
theorem shp_lt : ∀ k, (shp k).2 < 8000 := by
  intro k
  by_cases h : k < 95
  · have : ∀ k, k < 95 → (shp k).2 < 8000 := by decide +kernel
    exact this k h
  · unfold shp
    have h2 : shpL[k]? = none := List.getElem?_eq_none (by show 95 ≤ k; omega)
    simp [List.getD, h2]
theorem row_n {k n : Nat} (h : isRow k n) : n < 2147483648 := by
  have h1 := shp_lt (k + 1)
  rw [h.2.2.2.2] at h1
  exact Nat.lt_trans h1 (by decide)
theorem mu_eq {σ : Mem} {k j : Nat} {v : Int} : mu σ k j v k j = v := by simp [mu]
section WK
variable {xs : XS} {d : MD} {pc : Nat} {ls : List (Option AV)} {st : List AV} {σ : Mem} {Q : Int → Mem → Prop}
theorem g_top {v w : Int} (h : v = w) (k : GO xs d pc ls (.inl w :: st) σ Q) : GO xs d pc ls (.inl v :: st) σ Q := by rw [h]; exact k
theorem g_kill {i : Nat} {ls' : List (Option AV)} (he : ls.set i none = ls') (k : GO xs d pc ls' st σ Q) : GO xs d pc ls st σ Q := by
  intro p l e R s m args below meth c D cyI cyZ adr A cells slots QF C RT0 H locs lsA hR hS hL hst
  subst he
  refine k p l e R s m args below meth c D cyI cyZ adr A cells slots QF C RT0 H locs lsA hR hS ⟨hL.1, hL.2.1, by rw [List.length_set]; exact hL.2.2.1, fun j v hj => ?_⟩ hst
  by_cases e1 : j = i
  · subst e1
    rw [List.getElem?_set] at hj
    simp at hj
  · rw [List.getElem?_set_ne (Ne.symm e1)] at hj
    exact hL.2.2.2 j v hj
theorem g_table {dflt lo hi x : Int} {offs : Array Int} {len : Nat} (hd : decode (mC d) pc = .ok (.tableswitch dflt lo hi offs, len)) (ho : (x < lo ∨ hi < x) → ∃ tgt : Nat, (pc : Int) + dflt = (tgt : Int) ∧ GO xs d tgt ls st σ Q) (hi2 : lo ≤ x → x ≤ hi → ∃ (off : Int) (tgt : Nat), offs[(x - lo).toNat]? = some off ∧ (pc : Int) + off = (tgt : Int) ∧ GO xs d tgt ls st σ Q) : GO xs d pc ls (.inl x :: st) σ Q := by
  intro p l e R s m args below meth c D cyI cyZ adr A cells slots QF C RT0 H locs lsA hR hS hL hst
  have hv := List.forall_mem_cons.mp hst
  have hx : inR x := hv.1
  by_cases h : x < lo ∨ hi < x
  · obtain ⟨tgt, ht, k⟩ := ho h
    exact lv_tableOut C.1 C.2.1 hd (by rw [ofI_toInt hx]; exact h) ht (k p l e R s m args below meth c D cyI cyZ adr A cells slots QF C RT0 H locs lsA hR hS hL hv.2)
  · obtain ⟨off, tgt, hoff, ht, k⟩ := hi2 (by omega) (by omega)
    exact lv_tableIn C.1 C.2.1 hd (by rw [ofI_toInt hx]; omega) (by rw [ofI_toInt hx]; omega) (by rw [ofI_toInt hx]; exact hoff) ht (k p l e R s m args below meth c D cyI cyZ adr A cells slots QF C RT0 H locs lsA hR hS hL hv.2)
end WK
-- a contract may say less
theorem CM.mono {d : MD} {as : List AV} {σ : Mem} {Q Q' : Int → Mem → Prop} (h : ∀ v σ', Q v σ' → Q' v σ') (hc : CM d as σ Q) : CM d as σ Q' := by
  intro l D cyI cyZ adr sz hinj hok
  have hM := hc l D cyI cyZ adr sz hinj hok
  unfold Met at hM ⊢
  intro p e ha hcc hk s m args below hf hfit hp hkk
  obtain ⟨k, o, h1, h2, h3, hQ, hF⟩ := hM p e ha hcc hk s m args below hf hfit hp hkk
  refine ⟨k, o, h1, h2, h3, ?_, hF⟩
  unfold QcM at hQ ⊢
  generalize mK d = kk at hQ ⊢
  rcases kk with _ | _ | _ | kk
  · obtain ⟨⟨r, u, q1, ⟨q2, q2b, q2c⟩, q3⟩, q4⟩ := hQ
    exact ⟨⟨r, u, q1, ⟨q2, q2b, h _ _ q2c⟩, q3⟩, q4⟩
  · obtain ⟨⟨u, q1, q2, q3⟩, q4⟩ := hQ
    exact ⟨⟨u, q1, h _ _ q2, q3⟩, q4⟩
  · obtain ⟨⟨u, a, q1, q2, q3⟩, q4⟩ := hQ
    exact ⟨⟨u, a, q1, h _ _ q2, q3⟩, q4⟩
  · obtain ⟨⟨r, u, q1, ⟨q2, q2b, q2c⟩, q3⟩, q4⟩ := hQ
    exact ⟨⟨r, u, q1, ⟨q2, q2b, h _ _ q2c⟩, q3⟩, q4⟩
/-! Row -/
set_option maxRecDepth 100000 in
theorem rX7_get_0 {x1 : Int} {k0 n0 : Nat} (hk0 : isRow k0 n0) {σ : Mem} {Q : Int → Mem → Prop} (h : (x1 < 0 → Q 0 σ) ∧ (0 ≤ x1 → (x1 < ((n0 : Nat) : Int) → ((0 ≤ x1) ∧ (((x1 < n0) ∧ (Q (σ (k0 + 1) (x1).toNat) σ))))) ∧ (((n0 : Nat) : Int) ≤ x1 → Q 0 σ))) : CM mX7_get [.inr k0, .inl x1] σ Q := by
  refine CM_of_GO (by decide +kernel) rfl (Nat.le_of_ble_eq_true rfl) ?_
  show GO none mX7_get 0 [some (.inr k0), some (.inl x1)] [] σ Q
  refine g_iload_n dX7_get_0 rfl rfl ?_
  refine g_if_lt (tgt := 13) dX7_get_1 (by decide) (fun c1 => ?_) (fun c1 => ?_)
  · have h := h.1 c1
    refine g_iconst dX7_get_13 (by decide) ?_
    refine g_goto (tgt := 23) dX7_get_14 (by decide) ?_
    exact g_ireturn rfl dX7_get_23 h
  · have h := h.2 c1
    refine g_iload_n dX7_get_4 rfl rfl ?_
    refine g_aload_n dX7_get_5 rfl rfl ?_
    refine g_getR (r' := (k0 + 1)) flX7_7 hk0.1 hk0.2.2.1 (by decide) hk0.2.2.2.1 dX7_get_6 ?_
    refine g_alen hk0.2.1 hk0.2.2.2.2 (row_n hk0) dX7_get_9 ?_
    refine g_icmp_lt (tgt := 17) dX7_get_10 (by decide) (fun c2 => ?_) (fun c2 => ?_)
    · have h := h.1 c2
      refine g_aload_n dX7_get_17 rfl rfl ?_
      refine g_getR (r' := (k0 + 1)) flX7_7 hk0.1 hk0.2.2.1 (by decide) hk0.2.2.2.1 dX7_get_18 ?_
      refine g_iload_n dX7_get_21 rfl rfl ?_
      obtain ⟨p3, h⟩ := h
      obtain ⟨p4, h⟩ := h
      refine g_iald hk0.2.1 hk0.2.2.2.2 p3 p4 dX7_get_22 ?_
      exact g_ireturn rfl dX7_get_23 h
    · have h := h.2 c2
      refine g_iconst dX7_get_13 (by decide) ?_
      refine g_goto (tgt := 23) dX7_get_14 (by decide) ?_
      exact g_ireturn rfl dX7_get_23 h
set_option maxRecDepth 100000 in
theorem rX7_set_0 {x1 x2 : Int} {k0 n0 : Nat} (hk0 : isRow k0 n0) {σ : Mem} {Q : Int → Mem → Prop} (h : (x1 < 0 → Q 0 σ) ∧ (0 ≤ x1 → (((n0 : Nat) : Int) ≤ x1 → Q 0 σ) ∧ (x1 < ((n0 : Nat) : Int) → ((0 ≤ x1) ∧ (((x1 < n0) ∧ (Q 0 (mu σ (k0 + 1) (x1).toNat x2)))))))) : CM mX7_set [.inr k0, .inl x1, .inl x2] σ Q := by
  refine CM_of_GO (by decide +kernel) rfl (Nat.le_of_ble_eq_true rfl) ?_
  show GO none mX7_set 0 [some (.inr k0), some (.inl x1), some (.inl x2)] [] σ Q
  refine g_iload_n dX7_set_0 rfl rfl ?_
  refine g_if_lt (tgt := 20) dX7_set_1 (by decide) (fun c1 => ?_) (fun c1 => ?_)
  · have h := h.1 c1
    exact g_return rfl dX7_set_20 h
  · have h := h.2 c1
    refine g_iload_n dX7_set_4 rfl rfl ?_
    refine g_aload_n dX7_set_5 rfl rfl ?_
    refine g_getR (r' := (k0 + 1)) flX7_7 hk0.1 hk0.2.2.1 (by decide) hk0.2.2.2.1 dX7_set_6 ?_
    refine g_alen hk0.2.1 hk0.2.2.2.2 (row_n hk0) dX7_set_9 ?_
    refine g_icmp_ge (tgt := 20) dX7_set_10 (by decide) (fun c2 => ?_) (fun c2 => ?_)
    · have h := h.1 c2
      exact g_return rfl dX7_set_20 h
    · have h := h.2 c2
      refine g_aload_n dX7_set_13 rfl rfl ?_
      refine g_getR (r' := (k0 + 1)) flX7_7 hk0.1 hk0.2.2.1 (by decide) hk0.2.2.2.1 dX7_set_14 ?_
      refine g_iload_n dX7_set_17 rfl rfl ?_
      refine g_iload_n dX7_set_18 rfl rfl ?_
      obtain ⟨p3, h⟩ := h
      obtain ⟨p4, h⟩ := h
      refine g_iast hk0.2.1 hk0.2.2.2.2 p3 p4 dX7_set_19 ?_
      exact g_return rfl dX7_set_20 h
theorem c_X7_get {k n : Nat} {i : Int} {σ : Mem} (hk : isRow k n) (h0 : 0 ≤ i) (hn : i < n) : CM mX7_get [.inr k, .inl i] σ (fun v σ1 => v = σ (k + 1) i.toNat ∧ σ1 = σ) := by
  refine rX7_get_0 hk ⟨fun h => ?_, fun _ => ⟨fun h => ⟨h0, hn, rfl, rfl⟩, fun h => ?_⟩⟩
  · omega
  · omega
theorem c_X7_set {k n : Nat} {i v : Int} {σ : Mem} (hk : isRow k n) (h0 : 0 ≤ i) (hn : i < n) : CM mX7_set [.inr k, .inl i, .inl v] σ (fun _ σ1 => σ1 = mu σ (k + 1) i.toNat v) := by
  refine rX7_set_0 hk ⟨fun h => ?_, fun _ => ⟨fun h => ?_, fun _ => ⟨h0, hn, rfl⟩⟩⟩
  · omega
  · omega
