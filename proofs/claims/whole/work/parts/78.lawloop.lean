/-! ===== the law: its loop ===== -/
def lawI (L : Nat) (f : Nat → Int) : Prop := L ≤ 2560 ∧ ∀ j, inR (f j)
theorem CI.mds {Z : Zt} {σ σ1 : Mem} (h : CI Z σ) (hS : Same mds σ σ1) : CI Z σ1 := h.same hS (by decide)
theorem MI.cls {Z : Zt} {σ σ1 : Mem} (h : MI Z σ) (hS : Same cls σ σ1) : MI Z σ1 := h.same (MSm.same hS (by decide)) (by decide)
def lawLs (i : Int) : List (Option AV) := [some (.inr 95), some (.inr 0), some (.inr 73), some (.inl i)]
def lawK (L : Nat) (f : Nat → Int) (i : Int) : Prop := ∀ (Z : Zt) (σ : Mem), GZ Z → CI Z σ → MI Z σ → GO (some (L, f)) mL_law 18 (lawLs i) [] σ (fun v _ => v = 1)
set_option maxRecDepth 100000 in
theorem lawC_column {L : Nat} {f : Nat → Int} {x3 : Int} {σ : Mem} {Z : Zt} (hL : lawI L f) (h0 : 0 ≤ x3) (h5 : x3 + 5 ≤ (L : Int)) (hZ : GZ Z) (hC : CI Z σ) (hM : MI Z σ) (k : lawK L f (x3 + 5)) : GO (some (L, f)) mL_law 148 (lawLs x3) [] σ (fun v _ => v = 1) := by
  have hL2 := hL.1
  refine rL_law_148 ?_
  repeat (refine ⟨by omega, ?_⟩)
  refine ⟨fun hb => ?_, fun hb => ?_⟩
  · repeat (refine ⟨by omega, ?_⟩)
    refine CM.mono (fun v σ1 hq => ?_) (c_X10_column hZ hC)
    obtain ⟨Z', hN, hZ', hC', hS⟩ := hq
    repeat (refine ⟨by omega, ?_⟩)
    refine ⟨fun _ => ?_, fun z => absurd hb z⟩
    repeat (refine ⟨by omega, ?_⟩)
    refine CM.mono (fun w σ2 hq2 => ?_) (c_X11_column (hM.cls hS) hN)
    obtain ⟨e, hM2, hS2⟩ := hq2
    exact ⟨fun _ => ⟨by omega, k Z' σ2 hZ' (hC'.mds hS2) hM2⟩, fun z => absurd e.symm z⟩
  · repeat (refine ⟨by omega, ?_⟩)
    refine CM.mono (fun v σ1 hq => ?_) (c_X10_column hZ hC)
    obtain ⟨Z', hN, hZ', hC', hS⟩ := hq
    repeat (refine ⟨by omega, ?_⟩)
    intro z9
    repeat (refine ⟨by omega, ?_⟩)
    refine CM.mono (fun w σ2 hq2 => ?_) (c_X11_column (hM.cls hS) hN)
    obtain ⟨e, hM2, hS2⟩ := hq2
    exact ⟨fun _ => ⟨by omega, k Z' σ2 hZ' (hC'.mds hS2) hM2⟩, fun z => absurd e.symm z⟩
set_option maxRecDepth 100000 in
theorem lawC_slot {L : Nat} {f : Nat → Int} {x3 : Int} {σ : Mem} {Z : Zt} (hL : lawI L f) (h0 : 0 ≤ x3) (h5 : x3 + 5 ≤ (L : Int)) (hZ : GZ Z) (hC : CI Z σ) (hM : MI Z σ) (k : lawK L f (x3 + 5)) : GO (some (L, f)) mL_law 207 (lawLs x3) [] σ (fun v _ => v = 1) := by
  have hL2 := hL.1
  refine rL_law_207 ?_
  repeat (refine ⟨by omega, ?_⟩)
  refine CM.mono (fun v σ1 hq => ?_) (c_X10_slot hZ hC)
  obtain ⟨Z', hN, hZ', hC', hS⟩ := hq
  repeat (refine ⟨by omega, ?_⟩)
  refine CM.mono (fun w σ2 hq2 => ?_) (c_X11_slot hZ (hM.cls hS) hN)
  obtain ⟨e, hM2, hS2⟩ := hq2
  exact ⟨fun _ => ⟨by omega, k Z' σ2 hZ' (hC'.mds hS2) hM2⟩, fun z => absurd e.symm z⟩
set_option maxRecDepth 100000 in
theorem lawC_exit {L : Nat} {f : Nat → Int} {x3 : Int} {σ : Mem} {Z : Zt} (hL : lawI L f) (h0 : 0 ≤ x3) (h5 : x3 + 5 ≤ (L : Int)) (hZ : GZ Z) (hC : CI Z σ) (hM : MI Z σ) (k : lawK L f (x3 + 5)) : GO (some (L, f)) mL_law 240 (lawLs x3) [] σ (fun v _ => v = 1) := by
  have hL2 := hL.1
  refine rL_law_240 ?_
  repeat (refine ⟨by omega, ?_⟩)
  refine ⟨fun hb => ?_, fun hb => ?_⟩
  · repeat (refine ⟨by omega, ?_⟩)
    refine CM.mono (fun v σ1 hq => ?_) (c_X10_exit hZ hC)
    obtain ⟨Z', hN, hZ', hC', hS⟩ := hq
    repeat (refine ⟨by omega, ?_⟩)
    refine ⟨fun _ => ?_, fun z => absurd hb z⟩
    repeat (refine ⟨by omega, ?_⟩)
    refine CM.mono (fun w σ2 hq2 => ?_) (c_X11_exit (hM.cls hS) hN (Or.inl rfl))
    obtain ⟨e, hM2, hS2⟩ := hq2
    exact ⟨fun _ => ⟨by omega, k Z' σ2 hZ' (hC'.mds hS2) hM2⟩, fun z => absurd e.symm z⟩
  · repeat (refine ⟨by omega, ?_⟩)
    refine CM.mono (fun v σ1 hq => ?_) (c_X10_exit hZ hC)
    obtain ⟨Z', hN, hZ', hC', hS⟩ := hq
    repeat (refine ⟨by omega, ?_⟩)
    intro z9
    repeat (refine ⟨by omega, ?_⟩)
    refine CM.mono (fun w σ2 hq2 => ?_) (c_X11_exit (hM.cls hS) hN (Or.inr rfl))
    obtain ⟨e, hM2, hS2⟩ := hq2
    exact ⟨fun _ => ⟨by omega, k Z' σ2 hZ' (hC'.mds hS2) hM2⟩, fun z => absurd e.symm z⟩
set_option maxRecDepth 100000 in
theorem lawC_far {L : Nat} {f : Nat → Int} {x3 : Int} {σ : Mem} {Z : Zt} (hL : lawI L f) (h0 : 0 ≤ x3) (h5 : x3 + 5 ≤ (L : Int)) (hZ : GZ Z) (hC : CI Z σ) (hM : MI Z σ) (k : lawK L f (x3 + 5)) : GO (some (L, f)) mL_law 299 (lawLs x3) [] σ (fun v _ => v = 1) := by
  have hL2 := hL.1
  refine rL_law_299 ?_
  repeat (refine ⟨by omega, ?_⟩)
  refine CM.mono (fun v σ1 hq => ?_) (c_X10_far hZ hC)
  obtain ⟨Z', hN, hZ', hC', hS⟩ := hq
  repeat (refine ⟨by omega, ?_⟩)
  refine CM.mono (fun w σ2 hq2 => ?_) (c_X11_far hZ (hM.cls hS) hN)
  obtain ⟨e, hM2, hS2⟩ := hq2
  exact ⟨fun _ => ⟨by omega, k Z' σ2 hZ' (hC'.mds hS2) hM2⟩, fun z => absurd e.symm z⟩
set_option maxRecDepth 100000 in
theorem lawC_out {L : Nat} {f : Nat → Int} {x3 : Int} {σ : Mem} {Z : Zt} (hL : lawI L f) (h0 : 0 ≤ x3) (h5 : x3 + 5 ≤ (L : Int)) (hZ : GZ Z) (hC : CI Z σ) (hM : MI Z σ) (k : lawK L f (x3 + 5)) : GO (some (L, f)) mL_law 332 (lawLs x3) [] σ (fun v _ => v = 1) := by
  have hL2 := hL.1
  refine rL_law_332 ?_
  repeat (refine ⟨by omega, ?_⟩)
  refine CM.mono (fun v σ1 hq => ?_) (c_X10_out hZ hC)
  obtain ⟨Z', hN, hZ', hC', hS⟩ := hq
  repeat (refine ⟨by omega, ?_⟩)
  refine CM.mono (fun w σ2 hq2 => ?_) (c_X11_out hZ (hM.cls hS) hN)
  obtain ⟨e, hM2, hS2⟩ := hq2
  exact ⟨fun _ => ⟨by omega, k Z' σ2 hZ' (hC'.mds hS2) hM2⟩, fun z => absurd e.symm z⟩
set_option maxRecDepth 100000 in
theorem lawC_bound {L : Nat} {f : Nat → Int} {x3 : Int} {σ : Mem} {Z : Zt} (hL : lawI L f) (h0 : 0 ≤ x3) (h5 : x3 + 5 ≤ (L : Int)) (hZ : GZ Z) (hC : CI Z σ) (hM : MI Z σ) (k : lawK L f (x3 + 5)) : GO (some (L, f)) mL_law 355 (lawLs x3) [] σ (fun v _ => v = 1) := by
  have hL2 := hL.1
  refine rL_law_355 ?_
  repeat (refine ⟨by omega, ?_⟩)
  refine CM.mono (fun v σ1 hq => ?_) (c_X10_bound hZ hC)
  obtain ⟨Z', hN, hZ', hC', hS⟩ := hq
  repeat (refine ⟨by omega, ?_⟩)
  refine CM.mono (fun w σ2 hq2 => ?_) (c_X11_bound (hM.cls hS) hN)
  obtain ⟨e, hM2, hS2⟩ := hq2
  exact ⟨fun _ => ⟨by omega, k Z' σ2 hZ' (hC'.mds hS2) hM2⟩, fun z => absurd e.symm z⟩
set_option maxRecDepth 100000 in
theorem lawC_shop {L : Nat} {f : Nat → Int} {x3 : Int} {σ : Mem} {Z : Zt} (hL : lawI L f) (h0 : 0 ≤ x3) (h5 : x3 + 5 ≤ (L : Int)) (hZ : GZ Z) (hC : CI Z σ) (hM : MI Z σ) (k : lawK L f (x3 + 5)) : GO (some (L, f)) mL_law 378 (lawLs x3) [] σ (fun v _ => v = 1) := by
  have hL2 := hL.1
  refine rL_law_378 ?_
  repeat (refine ⟨by omega, ?_⟩)
  refine CM.mono (fun v σ1 hq => ?_) (c_X10_shop hZ hC)
  obtain ⟨Z', hN, hZ', hC', hS⟩ := hq
  repeat (refine ⟨by omega, ?_⟩)
  refine CM.mono (fun w σ2 hq2 => ?_) (c_X11_shop hZ (hM.cls hS) hN)
  obtain ⟨e, hM2, hS2⟩ := hq2
  exact ⟨fun _ => ⟨by omega, k Z' σ2 hZ' (hC'.mds hS2) hM2⟩, fun z => absurd e.symm z⟩
set_option maxRecDepth 100000 in
theorem lawC_load {L : Nat} {f : Nat → Int} {x3 : Int} {σ : Mem} {Z : Zt} (hL : lawI L f) (h0 : 0 ≤ x3) (h5 : x3 + 5 ≤ (L : Int)) (hZ : GZ Z) (hC : CI Z σ) (hM : MI Z σ) (k : lawK L f (x3 + 5)) : GO (some (L, f)) mL_law 391 (lawLs x3) [] σ (fun v _ => v = 1) := by
  have hL2 := hL.1
  refine rL_law_391 ?_
  repeat (refine ⟨by omega, ?_⟩)
  refine CM.mono (fun v σ1 hq => ?_) (c_X10_load hZ hC)
  obtain ⟨Z', hN, hZ', hC', hS⟩ := hq
  repeat (refine ⟨by omega, ?_⟩)
  refine CM.mono (fun w σ2 hq2 => ?_) (c_X11_load hZ (hM.cls hS) hN)
  obtain ⟨e, hM2, hS2⟩ := hq2
  exact ⟨fun _ => ⟨by omega, k Z' σ2 hZ' (hC'.mds hS2) hM2⟩, fun z => absurd e.symm z⟩
set_option maxRecDepth 100000 in
theorem lawC_weight {L : Nat} {f : Nat → Int} {x3 : Int} {σ : Mem} {Z : Zt} (hL : lawI L f) (h0 : 0 ≤ x3) (h5 : x3 + 5 ≤ (L : Int)) (hZ : GZ Z) (hC : CI Z σ) (hM : MI Z σ) (k : lawK L f (x3 + 5)) : GO (some (L, f)) mL_law 444 (lawLs x3) [] σ (fun v _ => v = 1) := by
  have hL2 := hL.1
  refine rL_law_444 ?_
  repeat (refine ⟨by omega, ?_⟩)
  refine CM.mono (fun v σ1 hq => ?_) (c_X10_weight hZ hC)
  obtain ⟨Z', hN, hZ', hC', hS⟩ := hq
  repeat (refine ⟨by omega, ?_⟩)
  refine CM.mono (fun w σ2 hq2 => ?_) (c_X11_weight hZ (hM.cls hS) hN)
  obtain ⟨e, hM2, hS2⟩ := hq2
  exact ⟨fun _ => ⟨by omega, k Z' σ2 hZ' (hC'.mds hS2) hM2⟩, fun z => absurd e.symm z⟩
set_option maxRecDepth 100000 in
theorem lawC_wish {L : Nat} {f : Nat → Int} {x3 : Int} {σ : Mem} {Z : Zt} (hL : lawI L f) (h0 : 0 ≤ x3) (h5 : x3 + 5 ≤ (L : Int)) (hZ : GZ Z) (hC : CI Z σ) (hM : MI Z σ) (k : lawK L f (x3 + 5)) : GO (some (L, f)) mL_law 477 (lawLs x3) [] σ (fun v _ => v = 1) := by
  have hL2 := hL.1
  refine rL_law_477 ?_
  repeat (refine ⟨by omega, ?_⟩)
  refine ⟨fun hb => ?_, fun hb => ?_⟩
  · repeat (refine ⟨by omega, ?_⟩)
    refine CM.mono (fun v σ1 hq => ?_) (c_X10_wish hZ hC (Or.inl rfl))
    obtain ⟨Z', hN, hZ', hC', hS⟩ := hq
    repeat (refine ⟨by omega, ?_⟩)
    refine ⟨fun _ => ?_, fun z => absurd hb z⟩
    repeat (refine ⟨by omega, ?_⟩)
    refine CM.mono (fun w σ2 hq2 => ?_) (c_X11_wish hZ (hM.cls hS) (Or.inl rfl) hN)
    obtain ⟨e, hM2, hS2⟩ := hq2
    exact ⟨fun _ => ⟨by omega, k Z' σ2 hZ' (hC'.mds hS2) hM2⟩, fun z => absurd e.symm z⟩
  · repeat (refine ⟨by omega, ?_⟩)
    refine CM.mono (fun v σ1 hq => ?_) (c_X10_wish hZ hC (Or.inr rfl))
    obtain ⟨Z', hN, hZ', hC', hS⟩ := hq
    repeat (refine ⟨by omega, ?_⟩)
    intro z9
    repeat (refine ⟨by omega, ?_⟩)
    refine CM.mono (fun w σ2 hq2 => ?_) (c_X11_wish hZ (hM.cls hS) (Or.inr rfl) hN)
    obtain ⟨e, hM2, hS2⟩ := hq2
    exact ⟨fun _ => ⟨by omega, k Z' σ2 hZ' (hC'.mds hS2) hM2⟩, fun z => absurd e.symm z⟩
set_option maxRecDepth 100000 in
theorem lawC_unwish {L : Nat} {f : Nat → Int} {x3 : Int} {σ : Mem} {Z : Zt} (hL : lawI L f) (h0 : 0 ≤ x3) (h5 : x3 + 5 ≤ (L : Int)) (hZ : GZ Z) (hC : CI Z σ) (hM : MI Z σ) (k : lawK L f (x3 + 5)) : GO (some (L, f)) mL_law 546 (lawLs x3) [] σ (fun v _ => v = 1) := by
  have hL2 := hL.1
  refine rL_law_546 ?_
  repeat (refine ⟨by omega, ?_⟩)
  refine CM.mono (fun v σ1 hq => ?_) (c_X10_unwish hZ hC)
  obtain ⟨Z', hN, hZ', hC', hS⟩ := hq
  repeat (refine ⟨by omega, ?_⟩)
  refine CM.mono (fun w σ2 hq2 => ?_) (c_X11_unwish hZ (hM.cls hS) hN)
  obtain ⟨e, hM2, hS2⟩ := hq2
  exact ⟨fun _ => ⟨by omega, k Z' σ2 hZ' (hC'.mds hS2) hM2⟩, fun z => absurd e.symm z⟩
set_option maxRecDepth 100000 in
theorem lawC_put {L : Nat} {f : Nat → Int} {x3 : Int} {σ : Mem} {Z : Zt} (hL : lawI L f) (h0 : 0 ≤ x3) (h5 : x3 + 5 ≤ (L : Int)) (hZ : GZ Z) (hC : CI Z σ) (hM : MI Z σ) (k : lawK L f (x3 + 5)) : GO (some (L, f)) mL_law 569 (lawLs x3) [] σ (fun v _ => v = 1) := by
  have hL2 := hL.1
  refine rL_law_569 ?_
  repeat (refine ⟨by omega, ?_⟩)
  refine CM.mono (fun v σ1 hq => ?_) (c_X10_put hZ hC)
  obtain ⟨Z', hN, hZ', hC', hS⟩ := hq
  repeat (refine ⟨by omega, ?_⟩)
  refine CM.mono (fun w σ2 hq2 => ?_) (c_X11_put hZ (hM.cls hS) hN)
  obtain ⟨e, hM2, hS2⟩ := hq2
  exact ⟨fun _ => ⟨by omega, k Z' σ2 hZ' (hC'.mds hS2) hM2⟩, fun z => absurd e.symm z⟩
set_option maxRecDepth 100000 in
theorem lawC_places {L : Nat} {f : Nat → Int} {x3 : Int} {σ : Mem} {Z : Zt} (hL : lawI L f) (h0 : 0 ≤ x3) (h5 : x3 + 5 ≤ (L : Int)) (hZ : GZ Z) (hC : CI Z σ) (hM : MI Z σ) (k : lawK L f (x3 + 5)) : GO (some (L, f)) mL_law 592 (lawLs x3) [] σ (fun v _ => v = 1) := by
  have hL2 := hL.1
  refine rL_law_592 ?_
  repeat (refine ⟨by omega, ?_⟩)
  refine CM.mono (fun v σ1 hq => ?_) (c_X10_places hZ hC)
  obtain ⟨Z', hN, hZ', hC', hS⟩ := hq
  repeat (refine ⟨by omega, ?_⟩)
  refine CM.mono (fun w σ2 hq2 => ?_) (c_X11_places hZ (hM.cls hS) hN)
  obtain ⟨e, hM2, hS2⟩ := hq2
  exact ⟨fun _ => ⟨by omega, k Z' σ2 hZ' (hC'.mds hS2) hM2⟩, fun z => absurd e.symm z⟩
set_option maxRecDepth 100000 in
theorem lawC_cost {L : Nat} {f : Nat → Int} {x3 : Int} {σ : Mem} {Z : Zt} (hL : lawI L f) (h0 : 0 ≤ x3) (h5 : x3 + 5 ≤ (L : Int)) (hZ : GZ Z) (hC : CI Z σ) (hM : MI Z σ) (k : lawK L f (x3 + 5)) : GO (some (L, f)) mL_law 605 (lawLs x3) [] σ (fun v _ => v = 1) := by
  have hL2 := hL.1
  refine rL_law_605 ?_
  repeat (refine ⟨by omega, ?_⟩)
  refine CM.mono (fun v σ1 hq => ?_) (c_X10_cost hZ hC)
  obtain ⟨Z', hN, hZ', hC', hS⟩ := hq
  repeat (refine ⟨by omega, ?_⟩)
  refine CM.mono (fun w σ2 hq2 => ?_) (c_X11_cost hZ (hM.cls hS) hN)
  obtain ⟨e, hM2, hS2⟩ := hq2
  exact ⟨fun _ => ⟨by omega, k Z' σ2 hZ' (hC'.mds hS2) hM2⟩, fun z => absurd e.symm z⟩
set_option maxRecDepth 100000 in
theorem lawC_best {L : Nat} {f : Nat → Int} {x3 : Int} {σ : Mem} {Z : Zt} (hL : lawI L f) (h0 : 0 ≤ x3) (h5 : x3 + 5 ≤ (L : Int)) (hZ : GZ Z) (hC : CI Z σ) (hM : MI Z σ) (k : lawK L f (x3 + 5)) : GO (some (L, f)) mL_law 628 (lawLs x3) [] σ (fun v _ => v = 1) := by
  have hL2 := hL.1
  refine rL_law_628 ?_
  repeat (refine ⟨by omega, ?_⟩)
  refine CM.mono (fun v σ1 hq => ?_) (c_X10_best hZ hC)
  obtain ⟨Z', hN, hZ', hC', hS⟩ := hq
  repeat (refine ⟨by omega, ?_⟩)
  refine CM.mono (fun w σ2 hq2 => ?_) (c_X11_best hZ (hM.cls hS) hN)
  obtain ⟨e, hM2, hS2⟩ := hq2
  exact ⟨fun _ => ⟨by omega, k Z' σ2 hZ' (hC'.mds hS2) hM2⟩, fun z => absurd e.symm z⟩
set_option maxRecDepth 100000 in
theorem lawC_many {L : Nat} {f : Nat → Int} {x3 : Int} {σ : Mem} {Z : Zt} (hL : lawI L f) (h0 : 0 ≤ x3) (h5 : x3 + 5 ≤ (L : Int)) (hZ : GZ Z) (hC : CI Z σ) (hM : MI Z σ) (k : lawK L f (x3 + 5)) : GO (some (L, f)) mL_law 651 (lawLs x3) [] σ (fun v _ => v = 1) := by
  have hL2 := hL.1
  refine rL_law_651 ?_
  repeat (refine ⟨by omega, ?_⟩)
  refine CM.mono (fun v σ1 hq => ?_) (c_X10_many hZ hC)
  obtain ⟨Z', hN, hZ', hC', hS⟩ := hq
  repeat (refine ⟨by omega, ?_⟩)
  refine CM.mono (fun w σ2 hq2 => ?_) (c_X11_many hZ (hM.cls hS) hN)
  obtain ⟨e, hM2, hS2⟩ := hq2
  exact ⟨fun _ => ⟨by omega, k Z' σ2 hZ' (hC'.mds hS2) hM2⟩, fun z => absurd e.symm z⟩
set_option maxRecDepth 100000 in
theorem lawC_take {L : Nat} {f : Nat → Int} {x3 : Int} {σ : Mem} {Z : Zt} (hL : lawI L f) (h0 : 0 ≤ x3) (h5 : x3 + 5 ≤ (L : Int)) (hZ : GZ Z) (hC : CI Z σ) (hM : MI Z σ) (k : lawK L f (x3 + 5)) : GO (some (L, f)) mL_law 674 (lawLs x3) [] σ (fun v _ => v = 1) := by
  have hL2 := hL.1
  refine rL_law_674 ?_
  repeat (refine ⟨by omega, ?_⟩)
  refine CM.mono (fun v σ1 hq => ?_) (c_X10_take hZ hC)
  obtain ⟨Z', hN, hZ', hC', hS⟩ := hq
  repeat (refine ⟨by omega, ?_⟩)
  refine CM.mono (fun w σ2 hq2 => ?_) (c_X11_take hZ (hM.cls hS) hN)
  obtain ⟨e, hM2, hS2⟩ := hq2
  exact ⟨fun _ => ⟨by omega, k Z' σ2 hZ' (hC'.mds hS2) hM2⟩, fun z => absurd e.symm z⟩
set_option maxRecDepth 100000 in
theorem lawC_floor {L : Nat} {f : Nat → Int} {x3 : Int} {σ : Mem} {Z : Zt} (hL : lawI L f) (h0 : 0 ≤ x3) (h5 : x3 + 5 ≤ (L : Int)) (hZ : GZ Z) (hC : CI Z σ) (hM : MI Z σ) (k : lawK L f (x3 + 5)) : GO (some (L, f)) mL_law 697 (lawLs x3) [] σ (fun v _ => v = 1) := by
  have hL2 := hL.1
  refine rL_law_697 ?_
  repeat (refine ⟨by omega, ?_⟩)
  refine CM.mono (fun v σ1 hq => ?_) (c_X10_floor hZ hC)
  obtain ⟨Z', hN, hZ', hC', hS⟩ := hq
  repeat (refine ⟨by omega, ?_⟩)
  refine CM.mono (fun w σ2 hq2 => ?_) (c_X11_floor hZ (hM.cls hS) hN)
  obtain ⟨e, hM2, hS2⟩ := hq2
  exact ⟨fun _ => ⟨by omega, k Z' σ2 hZ' (hC'.mds hS2) hM2⟩, fun z => absurd e.symm z⟩
set_option maxRecDepth 100000 in
theorem lawC_settled {L : Nat} {f : Nat → Int} {x3 : Int} {σ : Mem} {Z : Zt} (hL : lawI L f) (h0 : 0 ≤ x3) (h5 : x3 + 5 ≤ (L : Int)) (hZ : GZ Z) (hC : CI Z σ) (hM : MI Z σ) (k : lawK L f (x3 + 5)) : GO (some (L, f)) mL_law 720 (lawLs x3) [] σ (fun v _ => v = 1) := by
  have hL2 := hL.1
  refine rL_law_720 ?_
  repeat (refine ⟨by omega, ?_⟩)
  refine CM.mono (fun v σ1 hq => ?_) (c_X10_settled hZ hC)
  obtain ⟨Z', hN, hZ', hC', hS⟩ := hq
  repeat (refine ⟨by omega, ?_⟩)
  refine CM.mono (fun w σ2 hq2 => ?_) (c_X11_settled hZ (hM.cls hS) hN)
  obtain ⟨e, hM2, hS2⟩ := hq2
  exact ⟨fun _ => ⟨by omega, k Z' σ2 hZ' (hC'.mds hS2) hM2⟩, fun z => absurd e.symm z⟩
set_option maxRecDepth 100000 in
theorem lawC_climb {L : Nat} {f : Nat → Int} {x3 : Int} {σ : Mem} {Z : Zt} (hL : lawI L f) (h0 : 0 ≤ x3) (h5 : x3 + 5 ≤ (L : Int)) (hZ : GZ Z) (hC : CI Z σ) (hM : MI Z σ) (k : lawK L f (x3 + 5)) : GO (some (L, f)) mL_law 743 (lawLs x3) [] σ (fun v _ => v = 1) := by
  have hL2 := hL.1
  refine rL_law_743 ?_
  repeat (refine ⟨by omega, ?_⟩)
  refine CM.mono (fun v σ1 hq => ?_) (c_X10_climb hZ hC)
  obtain ⟨Z', hN, hZ', hC', hS⟩ := hq
  repeat (refine ⟨by omega, ?_⟩)
  refine CM.mono (fun w σ2 hq2 => ?_) (c_X11_climb hZ (hM.cls hS) hN)
  obtain ⟨e, hM2, hS2⟩ := hq2
  exact ⟨fun _ => ⟨by omega, k Z' σ2 hZ' (hC'.mds hS2) hM2⟩, fun z => absurd e.symm z⟩
set_option maxRecDepth 100000 in
theorem lawC_move {L : Nat} {f : Nat → Int} {x3 : Int} {σ : Mem} {Z : Zt} (hL : lawI L f) (h0 : 0 ≤ x3) (h5 : x3 + 5 ≤ (L : Int)) (hZ : GZ Z) (hC : CI Z σ) (hM : MI Z σ) (k : lawK L f (x3 + 5)) : GO (some (L, f)) mL_law 766 (lawLs x3) [] σ (fun v _ => v = 1) := by
  have hL2 := hL.1
  refine rL_law_766 ?_
  repeat (refine ⟨by omega, ?_⟩)
  refine CM.mono (fun v σ1 hq => ?_) (c_X10_move hZ hC)
  obtain ⟨Z', hN, hZ', hC', hS⟩ := hq
  repeat (refine ⟨by omega, ?_⟩)
  refine CM.mono (fun w σ2 hq2 => ?_) (c_X11_move hZ (hM.cls hS) hN)
  obtain ⟨e, hM2, hS2⟩ := hq2
  exact ⟨fun _ => ⟨by omega, k Z' σ2 hZ' (hC'.mds hS2) hM2⟩, fun z => absurd e.symm z⟩
set_option maxRecDepth 100000 in
theorem lawC_step {L : Nat} {f : Nat → Int} {x3 : Int} {σ : Mem} {Z : Zt} (hL : lawI L f) (h0 : 0 ≤ x3) (h5 : x3 + 5 ≤ (L : Int)) (hZ : GZ Z) (hC : CI Z σ) (hM : MI Z σ) (k : lawK L f (x3 + 5)) : GO (some (L, f)) mL_law 789 (lawLs x3) [] σ (fun v _ => v = 1) := by
  have hL2 := hL.1
  refine rL_law_789 ?_
  repeat (refine ⟨by omega, ?_⟩)
  refine CM.mono (fun v σ1 hq => ?_) (c_X10_step hZ hC)
  obtain ⟨Z', hN, hZ', hC', hS⟩ := hq
  repeat (refine ⟨by omega, ?_⟩)
  refine CM.mono (fun w σ2 hq2 => ?_) (c_X11_step hZ (hM.cls hS) hN)
  obtain ⟨e, hM2, hS2⟩ := hq2
  exact ⟨fun _ => ⟨by omega, k Z' σ2 hZ' (hC'.mds hS2) hM2⟩, fun z => absurd e.symm z⟩
set_option maxRecDepth 100000 in
theorem lawC_plan {L : Nat} {f : Nat → Int} {x3 : Int} {σ : Mem} {Z : Zt} (hL : lawI L f) (h0 : 0 ≤ x3) (h5 : x3 + 5 ≤ (L : Int)) (hZ : GZ Z) (hC : CI Z σ) (hM : MI Z σ) (k : lawK L f (x3 + 5)) : GO (some (L, f)) mL_law 822 (lawLs x3) [] σ (fun v _ => v = 1) := by
  have hL2 := hL.1
  refine rL_law_822 ?_
  repeat (refine ⟨by omega, ?_⟩)
  refine CM.mono (fun v σ1 hq => ?_) (c_X10_plan hZ hC)
  obtain ⟨Z', hN, hZ', hC', hS⟩ := hq
  repeat (refine ⟨by omega, ?_⟩)
  refine CM.mono (fun w σ2 hq2 => ?_) (c_X11_plan hZ (hM.cls hS) hN)
  obtain ⟨e, hM2, hS2⟩ := hq2
  exact ⟨fun _ => ⟨by omega, k Z' σ2 hZ' (hC'.mds hS2) hM2⟩, fun z => absurd e.symm z⟩
set_option maxRecDepth 100000 in
theorem lawC_planned {L : Nat} {f : Nat → Int} {x3 : Int} {σ : Mem} {Z : Zt} (hL : lawI L f) (h0 : 0 ≤ x3) (h5 : x3 + 5 ≤ (L : Int)) (hZ : GZ Z) (hC : CI Z σ) (hM : MI Z σ) (k : lawK L f (x3 + 5)) : GO (some (L, f)) mL_law 845 (lawLs x3) [] σ (fun v _ => v = 1) := by
  have hL2 := hL.1
  refine rL_law_845 ?_
  repeat (refine ⟨by omega, ?_⟩)
  refine CM.mono (fun v σ1 hq => ?_) (c_X10_planned hZ hC)
  obtain ⟨Z', hN, hZ', hC', hS⟩ := hq
  repeat (refine ⟨by omega, ?_⟩)
  refine CM.mono (fun w σ2 hq2 => ?_) (c_X11_planned hZ (hM.cls hS) hN)
  obtain ⟨e, hM2, hS2⟩ := hq2
  exact ⟨fun _ => ⟨by omega, k Z' σ2 hZ' (hC'.mds hS2) hM2⟩, fun z => absurd e.symm z⟩
set_option maxRecDepth 100000 in
theorem lawC_count {L : Nat} {f : Nat → Int} {x3 : Int} {σ : Mem} {Z : Zt} (hL : lawI L f) (h0 : 0 ≤ x3) (h5 : x3 + 5 ≤ (L : Int)) (hZ : GZ Z) (hC : CI Z σ) (hM : MI Z σ) (k : lawK L f (x3 + 5)) : GO (some (L, f)) mL_law 878 (lawLs x3) [] σ (fun v _ => v = 1) := by
  have hL2 := hL.1
  refine rL_law_878 ?_
  repeat (refine ⟨by omega, ?_⟩)
  refine CM.mono (fun v σ1 hq => ?_) (c_X10_count hZ hC)
  obtain ⟨Z', hN, hZ', hC', hS⟩ := hq
  repeat (refine ⟨by omega, ?_⟩)
  refine CM.mono (fun w σ2 hq2 => ?_) (c_X11_count (hM.cls hS) hN)
  obtain ⟨e, hM2, hS2⟩ := hq2
  exact ⟨fun _ => ⟨by omega, k Z' σ2 hZ' (hC'.mds hS2) hM2⟩, fun z => absurd e.symm z⟩
set_option maxRecDepth 100000 in
theorem law_loop {L : Nat} {f : Nat → Int} (hL : lawI L f) : ∀ (d : Nat) (x3 : Int), 0 ≤ x3 → (L : Int) < x3 + d → lawK L f x3 := by
  have hL2 := hL.1
  intro d
  induction d with
  | zero =>
    intro x3 h0 hd Z σ hZ hC hM
    exact rL_law_18 ⟨by omega, fun _ => rfl, fun h => by omega⟩
  | succ d ih =>
    intro x3 h0 hd Z σ hZ hC hM
    refine rL_law_18 ⟨by omega, fun _ => rfl, fun h => ?_⟩
    repeat (refine ⟨by omega, ?_⟩)
    have k : lawK L f (x3 + 5) := ih (x3 + 5) (by omega) (by omega)
    exact ⟨fun _ => ⟨by omega, k Z σ hZ hC hM⟩, fun _ => lawC_column hL h0 (by omega) hZ hC hM k, fun _ => lawC_slot hL h0 (by omega) hZ hC hM k, fun _ => lawC_exit hL h0 (by omega) hZ hC hM k, fun _ => lawC_far hL h0 (by omega) hZ hC hM k, fun _ => lawC_out hL h0 (by omega) hZ hC hM k, fun _ => lawC_bound hL h0 (by omega) hZ hC hM k, fun _ => lawC_shop hL h0 (by omega) hZ hC hM k, fun _ => lawC_load hL h0 (by omega) hZ hC hM k, fun _ => lawC_weight hL h0 (by omega) hZ hC hM k, fun _ => lawC_wish hL h0 (by omega) hZ hC hM k, fun _ => lawC_unwish hL h0 (by omega) hZ hC hM k, fun _ => lawC_put hL h0 (by omega) hZ hC hM k, fun _ => lawC_places hL h0 (by omega) hZ hC hM k, fun _ => lawC_cost hL h0 (by omega) hZ hC hM k, fun _ => lawC_best hL h0 (by omega) hZ hC hM k, fun _ => lawC_many hL h0 (by omega) hZ hC hM k, fun _ => lawC_take hL h0 (by omega) hZ hC hM k, fun _ => lawC_floor hL h0 (by omega) hZ hC hM k, fun _ => lawC_settled hL h0 (by omega) hZ hC hM k, fun _ => lawC_climb hL h0 (by omega) hZ hC hM k, fun _ => lawC_move hL h0 (by omega) hZ hC hM k, fun _ => lawC_step hL h0 (by omega) hZ hC hM k, fun _ => lawC_plan hL h0 (by omega) hZ hC hM k, fun _ => lawC_planned hL h0 (by omega) hZ hC hM k, fun _ => lawC_count hL h0 (by omega) hZ hC hM k⟩
