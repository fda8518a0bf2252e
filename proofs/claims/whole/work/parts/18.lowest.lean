/-! ===== how low no cost can go: loads and ways, sorted ===== -/
def hldI (σ : Mem) (a : Nat) (l : List Int) : Prop := ∀ (i : Nat) (h : i < l.length), σ a i = l[i]
theorem hldI.cong {σ σ1 : Mem} {a b : Nat} {p : List Int} (h : hldI σ a p) (e : σ1 b = σ a) : hldI σ1 b p := fun i hi => by rw [e]; exact h i hi
def srt (l : List Int) : Prop := l.Pairwise (· ≤ ·)
def insA (l : List Int) (i : Nat) (v : Int) : List Int := l.take i ++ v :: l.drop i
theorem insA_perm (l : List Int) (i : Nat) (v : Int) : (insA l i v).Perm (v :: l) := by
  unfold insA
  have := List.perm_middle (a := v) (l₁ := l.take i) (l₂ := l.drop i)
  rw [List.take_append_drop] at this
  exact this
theorem insA_srt {l : List Int} {i : Nat} {v : Int} (hs : srt l) (hi : i ≤ l.length) (h1 : ∀ (j : Nat) (h : j < l.length), j < i → l[j] ≤ v) (h2 : ∀ (j : Nat) (h : j < l.length), i ≤ j → v < l[j]) : srt (insA l i v) := by
  unfold srt insA
  rw [List.pairwise_append, List.pairwise_cons]
  have hs2 := hs
  unfold srt at hs2
  rw [← List.take_append_drop i l, List.pairwise_append] at hs2
  refine ⟨hs2.1, ⟨fun b hb => ?_, hs2.2.1⟩, fun a ha b hb => ?_⟩
  · obtain ⟨j, hj, rfl⟩ := List.getElem_of_mem hb
    rw [List.getElem_drop]
    have := h2 (i + j) (by rw [List.length_drop] at hj; omega) (by omega)
    omega
  · rcases List.mem_cons.mp hb with rfl | hb
    · obtain ⟨j, hj, rfl⟩ := List.getElem_of_mem ha
      rw [List.getElem_take]
      rw [List.length_take] at hj
      exact h1 j (by omega) (by omega)
    · exact hs2.2.2 a ha b hb
theorem insA_hld {σ : Mem} {a i : Nat} {l : List Int} {v : Int} (hi : i ≤ l.length) (h1 : ∀ (j : Nat) (h : j < l.length), j < i → σ a j = l[j]) (h2 : ∀ (j : Nat) (h : j < l.length), i ≤ j → σ a (j + 1) = l[j]) : hldI (mu σ a i v) a (insA l i v) := by
  intro j hj
  unfold insA at hj ⊢
  rw [List.length_append, List.length_cons, List.length_take, List.length_drop] at hj
  rw [mu_at]
  by_cases e : j = i
  · subst e
    rw [if_pos rfl, List.getElem_append_right (by rw [List.length_take]; omega)]
    simp only [List.length_take, Nat.min_eq_left hi, Nat.sub_self, List.getElem_cons_zero]
  · rw [if_neg e]
    by_cases e2 : j < i
    · rw [List.getElem_append_left (by rw [List.length_take]; omega), List.getElem_take]
      exact h1 j (by omega) e2
    · rw [List.getElem_append_right (by rw [List.length_take]; omega)]
      obtain ⟨q, rfl⟩ : ∃ q, j = q + 1 := ⟨j - 1, by omega⟩
      rw [h2 q (by omega) (by omega)]
      have e3 : q + 1 - (List.take i l).length = (q - i) + 1 := by rw [List.length_take]; omega
      simp only [e3, List.getElem_cons_succ, List.getElem_drop, show i + (q - i) = q by omega]
set_option maxRecDepth 100000 in
theorem rX4_insert_0 {x1 x2 : Int} {k0 n0 : Nat} (hk0 : isRow k0 n0) {σ : Mem} {Q : Int → Mem → Prop} (h : GO none mX4_insert 2 [some (.inr k0), some (.inl x1), some (.inl x2), some (.inl x1)] [] σ Q) : CM mX4_insert [.inr k0, .inl x1, .inl x2] σ Q := by
  refine CM_of_GO (by decide +kernel) rfl (Nat.le_of_ble_eq_true rfl) ?_
  show GO none mX4_insert 0 [some (.inr k0), some (.inl x1), some (.inl x2), none] [] σ Q
  refine g_iload_n dX4_insert_0 rfl rfl ?_
  refine g_istore_n (ls' := [some (.inr k0), some (.inl x1), some (.inl x2), some (.inl x1)]) dX4_insert_1 rfl (by decide) rfl ?_
  exact h
set_option maxRecDepth 100000 in
theorem rX4_insert_2 {x1 x2 x3 : Int} {k0 n0 : Nat} (hk0 : isRow k0 n0) {σ : Mem} {Q : Int → Mem → Prop} (h : (x3 ≤ 0 → ((0 ≤ x3) ∧ (((x3 < n0) ∧ (Q 0 (mu σ (k0 + 1) (x3).toNat x2)))))) ∧ (0 < x3 → ((inR (x3 - 1)) ∧ (((0 ≤ (x3 - 1)) ∧ ((((x3 - 1) < n0) ∧ (((σ (k0 + 1) ((x3 - 1)).toNat) ≤ x2 → ((0 ≤ x3) ∧ (((x3 < n0) ∧ (Q 0 (mu σ (k0 + 1) (x3).toNat x2)))))) ∧ (x2 < (σ (k0 + 1) ((x3 - 1)).toNat) → ((0 ≤ x3) ∧ (((x3 < n0) ∧ (((inR (x3 + (-1))) ∧ (GO none mX4_insert 2 [some (.inr k0), some (.inl x1), some (.inl x2), some (.inl (x3 + (-1)))] [] (mu σ (k0 + 1) (x3).toNat (σ (k0 + 1) ((x3 - 1)).toNat)) Q))))))))))))))) : GO none mX4_insert 2 [some (.inr k0), some (.inl x1), some (.inl x2), some (.inl x3)] [] σ Q := by
  refine g_iload_n dX4_insert_2 rfl rfl ?_
  refine g_if_le (tgt := 35) dX4_insert_3 (by decide) (fun c1 => ?_) (fun c1 => ?_)
  · have h := h.1 c1
    refine g_aload_n dX4_insert_35 rfl rfl ?_
    refine g_iload_n dX4_insert_36 rfl rfl ?_
    refine g_iload_n dX4_insert_37 rfl rfl ?_
    obtain ⟨p2, h⟩ := h
    obtain ⟨p3, h⟩ := h
    refine g_invVV (as := [.inl x3, .inl x2]) (rest := []) okX7_set mlX4_64 hk0.1 hk0.2.2.1 ⟨_, _, rfl⟩ rfl ⟨Nat.le_of_ble_eq_true rfl, Nat.le_of_ble_eq_true rfl⟩ (Nat.le_of_ble_eq_true rfl) rfl dX4_insert_38 (c_X7_set hk0 p2 p3) rfl (fun σ5 e6 => ?_)
    subst σ5
    exact g_return rfl dX4_insert_41 h
  · have h := h.2 c1
    refine g_aload_n dX4_insert_6 rfl rfl ?_
    refine g_iload_n dX4_insert_7 rfl rfl ?_
    refine g_iconst dX4_insert_8 (by decide) ?_
    obtain ⟨p7, h⟩ := h
    refine g_isub dX4_insert_9 p7 ?_
    obtain ⟨p8, h⟩ := h
    obtain ⟨p9, h⟩ := h
    refine g_invVI (as := [.inl (x3 - 1)]) (rest := []) okX7_get mlX4_39 hk0.1 hk0.2.2.1 ⟨_, _, rfl⟩ rfl ⟨Nat.le_of_ble_eq_true rfl, Nat.le_of_ble_eq_true rfl⟩ (Nat.le_of_ble_eq_true rfl) rfl dX4_insert_10 (c_X7_get hk0 p8 p9) (Or.inl rfl) (fun v10 σ11 e12 => ?_)
    obtain ⟨e12a, e12b⟩ := e12; subst v10; subst σ11
    refine g_iload_n dX4_insert_13 rfl rfl ?_
    refine g_icmp_le (tgt := 35) dX4_insert_14 (by decide) (fun c13 => ?_) (fun c13 => ?_)
    · have h := h.1 c13
      refine g_aload_n dX4_insert_35 rfl rfl ?_
      refine g_iload_n dX4_insert_36 rfl rfl ?_
      refine g_iload_n dX4_insert_37 rfl rfl ?_
      obtain ⟨p14, h⟩ := h
      obtain ⟨p15, h⟩ := h
      refine g_invVV (as := [.inl x3, .inl x2]) (rest := []) okX7_set mlX4_64 hk0.1 hk0.2.2.1 ⟨_, _, rfl⟩ rfl ⟨Nat.le_of_ble_eq_true rfl, Nat.le_of_ble_eq_true rfl⟩ (Nat.le_of_ble_eq_true rfl) rfl dX4_insert_38 (c_X7_set hk0 p14 p15) rfl (fun σ17 e18 => ?_)
      subst σ17
      exact g_return rfl dX4_insert_41 h
    · have h := h.2 c13
      refine g_aload_n dX4_insert_17 rfl rfl ?_
      refine g_iload_n dX4_insert_18 rfl rfl ?_
      refine g_aload_n dX4_insert_19 rfl rfl ?_
      refine g_iload_n dX4_insert_20 rfl rfl ?_
      refine g_iconst dX4_insert_21 (by decide) ?_
      refine g_isub dX4_insert_22 p7 ?_
      refine g_invVI (as := [.inl (x3 - 1)]) (rest := [.inl x3, .inr k0]) okX7_get mlX4_39 hk0.1 hk0.2.2.1 ⟨_, _, rfl⟩ rfl ⟨Nat.le_of_ble_eq_true rfl, Nat.le_of_ble_eq_true rfl⟩ (Nat.le_of_ble_eq_true rfl) rfl dX4_insert_23 (c_X7_get hk0 p8 p9) (Or.inl rfl) (fun v19 σ20 e21 => ?_)
      obtain ⟨e21a, e21b⟩ := e21; subst v19; subst σ20
      obtain ⟨p22, h⟩ := h
      obtain ⟨p23, h⟩ := h
      refine g_invVV (as := [.inl x3, .inl (σ (k0 + 1) ((x3 - 1)).toNat)]) (rest := []) okX7_set mlX4_64 hk0.1 hk0.2.2.1 ⟨_, _, rfl⟩ rfl ⟨Nat.le_of_ble_eq_true rfl, Nat.le_of_ble_eq_true rfl⟩ (Nat.le_of_ble_eq_true rfl) rfl dX4_insert_26 (c_X7_set hk0 p22 p23) rfl (fun σ25 e26 => ?_)
      subst σ25
      obtain ⟨p27, h⟩ := h
      refine g_iinc (ls' := [some (.inr k0), some (.inl x1), some (.inl x2), some (.inl (x3 + (-1)))]) dX4_insert_29 (by decide) rfl p27 rfl ?_
      refine g_goto (tgt := 2) dX4_insert_32 (by decide) ?_
      exact h
theorem c_X4_insert {k n : Nat} {l : List Int} {x1 v : Int} {σ : Mem} (hk : isRow k n) (hl : l.length < n) (h99 : n < 1000) (hp : hldI σ (k + 1) l) (hs : srt l) (ex : x1 = l.length) : CM mX4_insert [.inr k, .inl x1, .inl v] σ (fun _ σ1 => ∃ l', hldI σ1 (k + 1) l' ∧ srt l' ∧ l'.Perm (v :: l) ∧ Same [k + 1] σ σ1) := by
  subst ex
  have key : ∀ (i : Nat) (σ0 : Mem), i ≤ l.length → (∀ (j : Nat) (h : j < l.length), j < i → σ0 (k + 1) j = l[j]) → (∀ (j : Nat) (h : j < l.length), i ≤ j → σ0 (k + 1) (j + 1) = l[j]) → (∀ (j : Nat) (h : j < l.length), i ≤ j → v < l[j]) → Same [k + 1] σ σ0 → GO none mX4_insert 2 [some (.inr k), some (.inl (l.length : Int)), some (.inl v), some (.inl (i : Int))] [] σ0 (fun _ σ1 => ∃ l', hldI σ1 (k + 1) l' ∧ srt l' ∧ l'.Perm (v :: l) ∧ Same [k + 1] σ σ1) := by
    intro i
    induction i with
    | zero =>
      intro σ0 hi h1 h2 h3 hS
      refine rX4_insert_2 hk ⟨fun _ => ⟨by omega, by omega, ?_⟩, fun h => by omega⟩
      exact ⟨insA l 0 v, insA_hld (by omega) h1 h2, insA_srt hs (by omega) (fun j h q => by omega) h3, insA_perm _ _ _, hS.tr (Same.mu (by simp))⟩
    | succ i ih =>
      intro σ0 hi h1 h2 h3 hS
      have e1 : (((i + 1 : Nat) : Int) - 1).toNat = i := by omega
      have e2 := h1 i (by omega) (by omega)
      refine rX4_insert_2 hk ⟨fun h => by omega, fun _ => ⟨by omega, by omega, by omega, ?_⟩⟩
      rw [e1, e2, Int.toNat_natCast]
      refine ⟨fun h => ⟨by omega, by omega, ?_⟩, fun h => ⟨by omega, by omega, by omega, ?_⟩⟩
      · refine ⟨insA l (i + 1) v, insA_hld hi h1 h2, insA_srt hs hi (fun j hj q => ?_) h3, insA_perm _ _ _, hS.tr (Same.mu (by simp))⟩
        by_cases e : j = i
        · subst e; exact h
        · have := List.pairwise_iff_getElem.mp hs j i hj (by omega) (by omega)
          omega
      · rw [show (((i + 1 : Nat) : Int) + (-1)) = (i : Int) by omega]
        refine ih _ (by omega) (fun j hj q => ?_) (fun j hj q => ?_) (fun j hj q => ?_) (hS.tr (Same.mu (by simp)))
        · rw [mu_atn (by omega)]
          exact h1 j hj (by omega)
        · by_cases e : j = i
          · subst e
            rw [mu_at, if_pos rfl]
          · rw [mu_atn (by omega)]
            exact h2 j hj (by omega)
        · by_cases e : j = i
          · subst e; exact h
          · exact h3 j hj (by omega)
  refine rX4_insert_0 hk ?_
  exact key l.length σ (Nat.le_refl _) (fun j h _ => hp j h) (fun j h q => by omega) (fun j h q => by omega) Same.rf
/-- how many pairs carry x, how many pairs lie x apart -/
def fCnt (D : Dt) (y : Nat) (x : Int) : Int := tri (fun a b => if ld D y a b + ld D y b a = x ∧ 0 < x then 1 else 0) (dm D)
def wCnt (D : Dt) (x : Int) : Int := tri (fun a b => if dW D a b = x ∧ x ≠ -1 then 1 else 0) (dn D)
def floorV (A B : List Int) : Int := if B.length < A.length then -1 else sumF (fun i => A.getD (A.length - 1 - i) 0 * B.getD i 0) A.length
def FloorIs (D : Dt) (y : Nat) (v : Int) : Prop := ∃ A B : List Int, srt A ∧ srt B ∧ (∀ x, (A.count x : Int) = fCnt D y x) ∧ (∀ x, (B.count x : Int) = wCnt D x) ∧ v = floorV A B
theorem FloorIs.un {D : Dt} {y : Nat} {v w : Int} (h : FloorIs D y v) (h2 : FloorIs D y w) : v = w := by
  obtain ⟨A, B, a1, a2, a3, a4, rfl⟩ := h
  obtain ⟨A', B', b1, b2, b3, b4, rfl⟩ := h2
  have e1 : A = A' := List.Perm.eq_of_pairwise (le := (· ≤ ·)) (fun a b _ _ q1 q2 => Int.le_antisymm q1 q2) a1 b1 (List.perm_iff_count.mpr (fun x => by have := a3 x; have := b3 x; omega))
  have e2 : B = B' := List.Perm.eq_of_pairwise (le := (· ≤ ·)) (fun a b _ _ q1 q2 => Int.le_antisymm q1 q2) a2 b2 (List.perm_iff_count.mpr (fun x => by have := a4 x; have := b4 x; omega))
  rw [e1, e2]
theorem cnt_cons {A A' : List Int} {v x : Int} (h : A'.Perm (v :: A)) : (A'.count x : Int) = (A.count x : Int) + (if v = x then 1 else 0) := by
  rw [h.count_eq, List.count_cons]
  by_cases e : v = x
  · simp [e]
  · simp [e]
set_option maxRecDepth 100000 in
theorem rX4_sortLoads_0 {x1 : Int}  {σ : Mem} {Q : Int → Mem → Prop} (h : GO none mX4_sortLoads 4 [some (.inr 28), some (.inl x1), some (.inl 0), some (.inl 0), none, none] [] σ Q) : CM mX4_sortLoads [.inr 28, .inl x1] σ Q := by
  refine CM_of_GO (by decide +kernel) rfl (Nat.le_of_ble_eq_true rfl) ?_
  show GO none mX4_sortLoads 0 [some (.inr 28), some (.inl x1), none, none, none, none] [] σ Q
  refine g_iconst dX4_sortLoads_0 (by decide) ?_
  refine g_istore_n (ls' := [some (.inr 28), some (.inl x1), some (.inl 0), none, none, none]) dX4_sortLoads_1 rfl (by decide) rfl ?_
  refine g_iconst dX4_sortLoads_2 (by decide) ?_
  refine g_istore_n (ls' := [some (.inr 28), some (.inl x1), some (.inl 0), some (.inl 0), none, none]) dX4_sortLoads_3 rfl (by decide) rfl ?_
  exact h
set_option maxRecDepth 100000 in
theorem rX4_sortLoads_4 {x1 x2 x3 : Int}  {σ : Mem} {Q : Int → Mem → Prop} (h : ((σ 14 6) ≤ x3 → Q x2 σ) ∧ (x3 < (σ 14 6) → ((inR (x3 + 1)) ∧ (GO none mX4_sortLoads 20 [some (.inr 28), some (.inl x1), some (.inl x2), some (.inl x3), some (.inl (x3 + 1)), none] [] σ Q)))) : GO none mX4_sortLoads 4 [some (.inr 28), some (.inl x1), some (.inl x2), some (.inl x3), none, none] [] σ Q := by
  refine g_iload_n dX4_sortLoads_4 rfl rfl ?_
  refine g_aload_n dX4_sortLoads_5 rfl rfl ?_
  refine g_getR (r' := 14) flX4_27 (by decide) rfl (by decide) rfl dX4_sortLoads_6 ?_
  refine g_invVI (as := []) (rest := [.inl x3]) okX9_shops mlX4_42 (by decide) rfl ⟨_, _, rfl⟩ rfl ⟨Nat.le_of_ble_eq_true rfl, Nat.le_of_ble_eq_true rfl⟩ (Nat.le_of_ble_eq_true rfl) rfl dX4_sortLoads_9 (c_X9_shops) (Or.inl rfl) (fun v1 σ2 e3 => ?_)
  obtain ⟨e3a, e3b⟩ := e3; subst v1; subst σ2
  refine g_icmp_ge (tgt := 75) dX4_sortLoads_12 (by decide) (fun c4 => ?_) (fun c4 => ?_)
  · have h := h.1 c4
    refine g_iload_n dX4_sortLoads_75 rfl rfl ?_
    exact g_ireturn rfl dX4_sortLoads_76 h
  · have h := h.2 c4
    refine g_iload_n dX4_sortLoads_15 rfl rfl ?_
    refine g_iconst dX4_sortLoads_16 (by decide) ?_
    obtain ⟨p5, h⟩ := h
    refine g_iadd dX4_sortLoads_17 p5 ?_
    refine g_istore (ls' := [some (.inr 28), some (.inl x1), some (.inl x2), some (.inl x3), some (.inl (x3 + 1)), none]) dX4_sortLoads_18 (by decide) rfl ?_
    exact h
set_option maxRecDepth 100000 in
theorem rX4_sortLoads_20 {x1 x2 x3 x4 : Int}  {σ : Mem} {Q : Int → Mem → Prop} (h : ((σ 14 6) ≤ x4 → ((inR (x3 + 1)) ∧ (GO none mX4_sortLoads 4 [some (.inr 28), some (.inl x1), some (.inl x2), some (.inl (x3 + 1)), none, none] [] σ Q))) ∧ (x4 < (σ 14 6) → ((0 ≤ x1) ∧ (((x1 < 4) ∧ (((0 ≤ x3) ∧ (((x3 < 5) ∧ (((0 ≤ x4) ∧ (((x4 < 5) ∧ (((inR (σ 16 (25 * x1 + 5 * x3 + x4).toNat + σ 16 (25 * x1 + 5 * x4 + x3).toNat)) ∧ (((σ 16 (25 * x1 + 5 * x3 + x4).toNat + σ 16 (25 * x1 + 5 * x4 + x3).toNat) ≤ 0 → ((inR (x4 + 1)) ∧ (GO none mX4_sortLoads 20 [some (.inr 28), some (.inl x1), some (.inl x2), some (.inl x3), some (.inl (x4 + 1)), none] [] σ Q))) ∧ (0 < (σ 16 (25 * x1 + 5 * x3 + x4).toNat + σ 16 (25 * x1 + 5 * x4 + x3).toNat) → CM mX4_insert [.inr 29, .inl x2, .inl (σ 16 (25 * x1 + 5 * x3 + x4).toNat + σ 16 (25 * x1 + 5 * x4 + x3).toNat)] σ (fun _ σ19 => ((inR (x2 + 1)) ∧ (((inR (x4 + 1)) ∧ (GO none mX4_sortLoads 20 [some (.inr 28), some (.inl x1), some (.inl (x2 + 1)), some (.inl x3), some (.inl (x4 + 1)), none] [] σ19 Q)))))))))))))))))))))) : GO none mX4_sortLoads 20 [some (.inr 28), some (.inl x1), some (.inl x2), some (.inl x3), some (.inl x4), none] [] σ Q := by
  refine g_iload dX4_sortLoads_20 rfl ?_
  refine g_aload_n dX4_sortLoads_22 rfl rfl ?_
  refine g_getR (r' := 14) flX4_27 (by decide) rfl (by decide) rfl dX4_sortLoads_23 ?_
  refine g_invVI (as := []) (rest := [.inl x4]) okX9_shops mlX4_42 (by decide) rfl ⟨_, _, rfl⟩ rfl ⟨Nat.le_of_ble_eq_true rfl, Nat.le_of_ble_eq_true rfl⟩ (Nat.le_of_ble_eq_true rfl) rfl dX4_sortLoads_26 (c_X9_shops) (Or.inl rfl) (fun v1 σ2 e3 => ?_)
  obtain ⟨e3a, e3b⟩ := e3; subst v1; subst σ2
  refine g_icmp_ge (tgt := 69) dX4_sortLoads_29 (by decide) (fun c4 => ?_) (fun c4 => ?_)
  · have h := h.1 c4
    obtain ⟨p5, h⟩ := h
    refine g_iinc (ls' := [some (.inr 28), some (.inl x1), some (.inl x2), some (.inl (x3 + 1)), some (.inl x4), none]) dX4_sortLoads_69 (by decide) rfl p5 rfl ?_
    refine g_goto (tgt := 4) dX4_sortLoads_72 (by decide) ?_
    refine g_kill (i := 4) (ls' := [some (.inr 28), some (.inl x1), some (.inl x2), some (.inl (x3 + 1)), none, none]) rfl ?_
    exact h
  · have h := h.2 c4
    refine g_aload_n dX4_sortLoads_32 rfl rfl ?_
    refine g_getR (r' := 14) flX4_27 (by decide) rfl (by decide) rfl dX4_sortLoads_33 ?_
    refine g_iload_n dX4_sortLoads_36 rfl rfl ?_
    refine g_iload_n dX4_sortLoads_37 rfl rfl ?_
    refine g_iload dX4_sortLoads_38 rfl ?_
    obtain ⟨p6, h⟩ := h
    obtain ⟨p7, h⟩ := h
    obtain ⟨p8, h⟩ := h
    obtain ⟨p9, h⟩ := h
    obtain ⟨p10, h⟩ := h
    obtain ⟨p11, h⟩ := h
    obtain ⟨p12, h⟩ := h
    refine g_invVI (as := [.inl x1, .inl x3, .inl x4]) (rest := []) okX9_bothWays mlX4_47 (by decide) rfl ⟨_, _, rfl⟩ rfl ⟨Nat.le_of_ble_eq_true rfl, Nat.le_of_ble_eq_true rfl⟩ (Nat.le_of_ble_eq_true rfl) rfl dX4_sortLoads_40 (c_X9_bothWays p6 p7 p8 p9 p10 p11 p12) (Or.inl rfl) (fun v13 σ14 e15 => ?_)
    obtain ⟨e15a, e15b⟩ := e15; subst v13; subst σ14
    refine g_istore (ls' := [some (.inr 28), some (.inl x1), some (.inl x2), some (.inl x3), some (.inl x4), some (.inl (σ 16 (25 * x1 + 5 * x3 + x4).toNat + σ 16 (25 * x1 + 5 * x4 + x3).toNat))]) dX4_sortLoads_43 (by decide) rfl ?_
    refine g_iload dX4_sortLoads_45 rfl ?_
    refine g_if_le (tgt := 63) dX4_sortLoads_47 (by decide) (fun c16 => ?_) (fun c16 => ?_)
    · have h := h.1 c16
      obtain ⟨p17, h⟩ := h
      refine g_iinc (ls' := [some (.inr 28), some (.inl x1), some (.inl x2), some (.inl x3), some (.inl (x4 + 1)), some (.inl (σ 16 (25 * x1 + 5 * x3 + x4).toNat + σ 16 (25 * x1 + 5 * x4 + x3).toNat))]) dX4_sortLoads_63 (by decide) rfl p17 rfl ?_
      refine g_goto (tgt := 20) dX4_sortLoads_66 (by decide) ?_
      refine g_kill (i := 5) (ls' := [some (.inr 28), some (.inl x1), some (.inl x2), some (.inl x3), some (.inl (x4 + 1)), none]) rfl ?_
      exact h
    · have h := h.2 c16
      refine g_aload_n dX4_sortLoads_50 rfl rfl ?_
      refine g_getR (r' := 29) flX4_14 (by decide) rfl (by decide) rfl dX4_sortLoads_51 ?_
      refine g_iload_n dX4_sortLoads_54 rfl rfl ?_
      refine g_iload dX4_sortLoads_55 rfl ?_
      refine g_invSV (as := [.inr 29, .inl x2, .inl (σ 16 (25 * x1 + 5 * x3 + x4).toNat + σ 16 (25 * x1 + 5 * x4 + x3).toNat)]) (rest := []) okX4_insert rfl mlX4_51 rfl ⟨Nat.le_of_ble_eq_true rfl, Nat.le_of_ble_eq_true rfl⟩ (Nat.le_of_ble_eq_true rfl) rfl dX4_sortLoads_57 h rfl (fun σ19 e20 => ?_)
      have h := e20
      obtain ⟨p21, h⟩ := h
      refine g_iinc (ls' := [some (.inr 28), some (.inl x1), some (.inl (x2 + 1)), some (.inl x3), some (.inl x4), some (.inl (σ 16 (25 * x1 + 5 * x3 + x4).toNat + σ 16 (25 * x1 + 5 * x4 + x3).toNat))]) dX4_sortLoads_60 (by decide) rfl p21 rfl ?_
      obtain ⟨p22, h⟩ := h
      refine g_iinc (ls' := [some (.inr 28), some (.inl x1), some (.inl (x2 + 1)), some (.inl x3), some (.inl (x4 + 1)), some (.inl (σ 16 (25 * x1 + 5 * x3 + x4).toNat + σ 16 (25 * x1 + 5 * x4 + x3).toNat))]) dX4_sortLoads_63 (by decide) rfl p22 rfl ?_
      refine g_goto (tgt := 20) dX4_sortLoads_66 (by decide) ?_
      refine g_kill (i := 5) (ls' := [some (.inr 28), some (.inl x1), some (.inl (x2 + 1)), some (.inl x3), some (.inl (x4 + 1)), none]) rfl ?_
      exact h
set_option maxRecDepth 100000 in
theorem rX4_sortWays_0  {σ : Mem} {Q : Int → Mem → Prop} (h : GO none mX4_sortWays 4 [some (.inr 28), some (.inl 0), some (.inl 0), none, none] [] σ Q) : CM mX4_sortWays [.inr 28] σ Q := by
  refine CM_of_GO (by decide +kernel) rfl (Nat.le_of_ble_eq_true rfl) ?_
  show GO none mX4_sortWays 0 [some (.inr 28), none, none, none, none] [] σ Q
  refine g_iconst dX4_sortWays_0 (by decide) ?_
  refine g_istore_n (ls' := [some (.inr 28), some (.inl 0), none, none, none]) dX4_sortWays_1 rfl (by decide) rfl ?_
  refine g_iconst dX4_sortWays_2 (by decide) ?_
  refine g_istore_n (ls' := [some (.inr 28), some (.inl 0), some (.inl 0), none, none]) dX4_sortWays_3 rfl (by decide) rfl ?_
  exact h
set_option maxRecDepth 100000 in
theorem rX4_sortWays_4 {x1 x2 : Int}  {σ : Mem} {Q : Int → Mem → Prop} (h : ((σ 1 7) ≤ x2 → Q x1 σ) ∧ (x2 < (σ 1 7) → ((inR (x2 + 1)) ∧ (GO none mX4_sortWays 19 [some (.inr 28), some (.inl x1), some (.inl x2), some (.inl (x2 + 1)), none] [] σ Q)))) : GO none mX4_sortWays 4 [some (.inr 28), some (.inl x1), some (.inl x2), none, none] [] σ Q := by
  refine g_iload_n dX4_sortWays_4 rfl rfl ?_
  refine g_aload_n dX4_sortWays_5 rfl rfl ?_
  refine g_getR (r' := 1) flX4_23 (by decide) rfl (by decide) rfl dX4_sortWays_6 ?_
  refine g_invVI (as := []) (rest := [.inl x2]) okX2_slots mlX4_55 (by decide) rfl ⟨_, _, rfl⟩ rfl ⟨Nat.le_of_ble_eq_true rfl, Nat.le_of_ble_eq_true rfl⟩ (Nat.le_of_ble_eq_true rfl) rfl dX4_sortWays_9 (c_X2_slots) (Or.inl rfl) (fun v1 σ2 e3 => ?_)
  obtain ⟨e3a, e3b⟩ := e3; subst v1; subst σ2
  refine g_icmp_ge (tgt := 72) dX4_sortWays_12 (by decide) (fun c4 => ?_) (fun c4 => ?_)
  · have h := h.1 c4
    refine g_iload_n dX4_sortWays_72 rfl rfl ?_
    exact g_ireturn rfl dX4_sortWays_73 h
  · have h := h.2 c4
    refine g_iload_n dX4_sortWays_15 rfl rfl ?_
    refine g_iconst dX4_sortWays_16 (by decide) ?_
    obtain ⟨p5, h⟩ := h
    refine g_iadd dX4_sortWays_17 p5 ?_
    refine g_istore_n (ls' := [some (.inr 28), some (.inl x1), some (.inl x2), some (.inl (x2 + 1)), none]) dX4_sortWays_18 rfl (by decide) rfl ?_
    exact h
set_option maxRecDepth 100000 in
theorem rX4_sortWays_19 {x1 x2 x3 : Int}  {σ : Mem} {Q : Int → Mem → Prop} (h : ((σ 1 7) ≤ x3 → ((inR (x2 + 1)) ∧ (GO none mX4_sortWays 4 [some (.inr 28), some (.inl x1), some (.inl (x2 + 1)), none, none] [] σ Q))) ∧ (x3 < (σ 1 7) → ((0 ≤ x2) ∧ (((x2 < 6) ∧ (((0 ≤ x3) ∧ (((x3 < 6) ∧ (((σ 7 (6 * x2 + x3).toNat) = (-1) → ((inR (x3 + 1)) ∧ (GO none mX4_sortWays 19 [some (.inr 28), some (.inl x1), some (.inl x2), some (.inl (x3 + 1)), none] [] σ Q))) ∧ ((σ 7 (6 * x2 + x3).toNat) ≠ (-1) → CM mX4_insert [.inr 31, .inl x1, .inl (σ 7 (6 * x2 + x3).toNat)] σ (fun _ σ16 => ((inR (x1 + 1)) ∧ (((inR (x3 + 1)) ∧ (GO none mX4_sortWays 19 [some (.inr 28), some (.inl (x1 + 1)), some (.inl x2), some (.inl (x3 + 1)), none] [] σ16 Q)))))))))))))))) : GO none mX4_sortWays 19 [some (.inr 28), some (.inl x1), some (.inl x2), some (.inl x3), none] [] σ Q := by
  refine g_iload_n dX4_sortWays_19 rfl rfl ?_
  refine g_aload_n dX4_sortWays_20 rfl rfl ?_
  refine g_getR (r' := 1) flX4_23 (by decide) rfl (by decide) rfl dX4_sortWays_21 ?_
  refine g_invVI (as := []) (rest := [.inl x3]) okX2_slots mlX4_55 (by decide) rfl ⟨_, _, rfl⟩ rfl ⟨Nat.le_of_ble_eq_true rfl, Nat.le_of_ble_eq_true rfl⟩ (Nat.le_of_ble_eq_true rfl) rfl dX4_sortWays_24 (c_X2_slots) (Or.inl rfl) (fun v1 σ2 e3 => ?_)
  obtain ⟨e3a, e3b⟩ := e3; subst v1; subst σ2
  refine g_icmp_ge (tgt := 66) dX4_sortWays_27 (by decide) (fun c4 => ?_) (fun c4 => ?_)
  · have h := h.1 c4
    obtain ⟨p5, h⟩ := h
    refine g_iinc (ls' := [some (.inr 28), some (.inl x1), some (.inl (x2 + 1)), some (.inl x3), none]) dX4_sortWays_66 (by decide) rfl p5 rfl ?_
    refine g_goto (tgt := 4) dX4_sortWays_69 (by decide) ?_
    refine g_kill (i := 3) (ls' := [some (.inr 28), some (.inl x1), some (.inl (x2 + 1)), none, none]) rfl ?_
    exact h
  · have h := h.2 c4
    refine g_aload_n dX4_sortWays_30 rfl rfl ?_
    refine g_getR (r' := 1) flX4_23 (by decide) rfl (by decide) rfl dX4_sortWays_31 ?_
    refine g_iload_n dX4_sortWays_34 rfl rfl ?_
    refine g_iload_n dX4_sortWays_35 rfl rfl ?_
    obtain ⟨p6, h⟩ := h
    obtain ⟨p7, h⟩ := h
    obtain ⟨p8, h⟩ := h
    obtain ⟨p9, h⟩ := h
    refine g_invVI (as := [.inl x2, .inl x3]) (rest := []) okX2_wayBetween mlX4_60 (by decide) rfl ⟨_, _, rfl⟩ rfl ⟨Nat.le_of_ble_eq_true rfl, Nat.le_of_ble_eq_true rfl⟩ (Nat.le_of_ble_eq_true rfl) rfl dX4_sortWays_36 (c_X2_wayBetween p6 p7 p8 p9) (Or.inl rfl) (fun v10 σ11 e12 => ?_)
    obtain ⟨e12a, e12b⟩ := e12; subst v10; subst σ11
    refine g_istore (ls' := [some (.inr 28), some (.inl x1), some (.inl x2), some (.inl x3), some (.inl (σ 7 (6 * x2 + x3).toNat))]) dX4_sortWays_39 (by decide) rfl ?_
    refine g_iload dX4_sortWays_41 rfl ?_
    refine g_iconst dX4_sortWays_43 (by decide) ?_
    refine g_icmp_eq (tgt := 60) dX4_sortWays_44 (by decide) (fun c13 => ?_) (fun c13 => ?_)
    · have h := h.1 c13
      obtain ⟨p14, h⟩ := h
      refine g_iinc (ls' := [some (.inr 28), some (.inl x1), some (.inl x2), some (.inl (x3 + 1)), some (.inl (σ 7 (6 * x2 + x3).toNat))]) dX4_sortWays_60 (by decide) rfl p14 rfl ?_
      refine g_goto (tgt := 19) dX4_sortWays_63 (by decide) ?_
      refine g_kill (i := 4) (ls' := [some (.inr 28), some (.inl x1), some (.inl x2), some (.inl (x3 + 1)), none]) rfl ?_
      exact h
    · have h := h.2 c13
      refine g_aload_n dX4_sortWays_47 rfl rfl ?_
      refine g_getR (r' := 31) flX4_20 (by decide) rfl (by decide) rfl dX4_sortWays_48 ?_
      refine g_iload_n dX4_sortWays_51 rfl rfl ?_
      refine g_iload dX4_sortWays_52 rfl ?_
      refine g_invSV (as := [.inr 31, .inl x1, .inl (σ 7 (6 * x2 + x3).toNat)]) (rest := []) okX4_insert rfl mlX4_51 rfl ⟨Nat.le_of_ble_eq_true rfl, Nat.le_of_ble_eq_true rfl⟩ (Nat.le_of_ble_eq_true rfl) rfl dX4_sortWays_54 h rfl (fun σ16 e17 => ?_)
      have h := e17
      obtain ⟨p18, h⟩ := h
      refine g_iinc (ls' := [some (.inr 28), some (.inl (x1 + 1)), some (.inl x2), some (.inl x3), some (.inl (σ 7 (6 * x2 + x3).toNat))]) dX4_sortWays_57 (by decide) rfl p18 rfl ?_
      obtain ⟨p19, h⟩ := h
      refine g_iinc (ls' := [some (.inr 28), some (.inl (x1 + 1)), some (.inl x2), some (.inl (x3 + 1)), some (.inl (σ 7 (6 * x2 + x3).toNat))]) dX4_sortWays_60 (by decide) rfl p19 rfl ?_
      refine g_goto (tgt := 19) dX4_sortWays_63 (by decide) ?_
      refine g_kill (i := 4) (ls' := [some (.inr 28), some (.inl (x1 + 1)), some (.inl x2), some (.inl (x3 + 1)), none]) rfl ?_
      exact h
set_option maxRecDepth 100000 in
theorem rX4_of_0 {x1 : Int}  {σ : Mem} {Q : Int → Mem → Prop} (h : CM mX4_sortLoads [.inr 28, .inl x1] σ (fun v1 σ2 => CM mX4_sortWays [.inr 28] σ2 (fun v4 σ5 => (v1 ≤ v4 → GO none mX4_of 21 [some (.inr 28), some (.inl x1), some (.inl v1), some (.inl 0), some (.inl 0)] [] σ5 Q) ∧ (v4 < v1 → Q (-1) σ5)))) : CM mX4_of [.inr 28, .inl x1] σ Q := by
  refine CM_of_GO (by decide +kernel) rfl (Nat.le_of_ble_eq_true rfl) ?_
  show GO none mX4_of 0 [some (.inr 28), some (.inl x1), none, none, none] [] σ Q
  refine g_aload_n dX4_of_0 rfl rfl ?_
  refine g_iload_n dX4_of_1 rfl rfl ?_
  refine g_invVI (as := [.inl x1]) (rest := []) okX4_sortLoads mlX4_31 (by decide) rfl ⟨_, _, rfl⟩ rfl ⟨Nat.le_of_ble_eq_true rfl, Nat.le_of_ble_eq_true rfl⟩ (Nat.le_of_ble_eq_true rfl) rfl dX4_of_2 h (Or.inl rfl) (fun v1 σ2 e3 => ?_)
  have h := e3
  refine g_istore_n (ls' := [some (.inr 28), some (.inl x1), some (.inl v1), none, none]) dX4_of_5 rfl (by decide) rfl ?_
  refine g_aload_n dX4_of_6 rfl rfl ?_
  refine g_invVI (as := []) (rest := []) okX4_sortWays mlX4_35 (by decide) rfl ⟨_, _, rfl⟩ rfl ⟨Nat.le_of_ble_eq_true rfl, Nat.le_of_ble_eq_true rfl⟩ (Nat.le_of_ble_eq_true rfl) rfl dX4_of_7 h (Or.inl rfl) (fun v4 σ5 e6 => ?_)
  have h := e6
  refine g_iload_n dX4_of_10 rfl rfl ?_
  refine g_icmp_ge (tgt := 16) dX4_of_11 (by decide) (fun c7 => ?_) (fun c7 => ?_)
  · have h := h.1 c7
    refine g_iconst dX4_of_16 (by decide) ?_
    refine g_istore_n (ls' := [some (.inr 28), some (.inl x1), some (.inl v1), some (.inl 0), none]) dX4_of_17 rfl (by decide) rfl ?_
    refine g_iconst dX4_of_18 (by decide) ?_
    refine g_istore (ls' := [some (.inr 28), some (.inl x1), some (.inl v1), some (.inl 0), some (.inl 0)]) dX4_of_19 (by decide) rfl ?_
    exact h
  · have h := h.2 c7
    refine g_iconst dX4_of_14 (by decide) ?_
    exact g_ireturn rfl dX4_of_15 h
set_option maxRecDepth 100000 in
theorem rX4_of_21 {x1 x2 x3 x4 : Int}  {σ : Mem} {Q : Int → Mem → Prop} (h : (x2 ≤ x4 → Q x3 σ) ∧ (x4 < x2 → ((inR (x2 - 1)) ∧ (((inR ((x2 - 1) - x4)) ∧ (((0 ≤ ((x2 - 1) - x4)) ∧ (((((x2 - 1) - x4) < 25) ∧ (((0 ≤ x4) ∧ (((x4 < 36) ∧ (((inR ((σ 30 (((x2 - 1) - x4)).toNat) * (σ 32 (x4).toNat))) ∧ (((inR (x3 + ((σ 30 (((x2 - 1) - x4)).toNat) * (σ 32 (x4).toNat)))) ∧ (((inR (x4 + 1)) ∧ (GO none mX4_of 21 [some (.inr 28), some (.inl x1), some (.inl x2), some (.inl (x3 + ((σ 30 (((x2 - 1) - x4)).toNat) * (σ 32 (x4).toNat)))), some (.inl (x4 + 1))] [] σ Q)))))))))))))))))))) : GO none mX4_of 21 [some (.inr 28), some (.inl x1), some (.inl x2), some (.inl x3), some (.inl x4)] [] σ Q := by
  refine g_iload dX4_of_21 rfl ?_
  refine g_iload_n dX4_of_23 rfl rfl ?_
  refine g_icmp_ge (tgt := 59) dX4_of_24 (by decide) (fun c1 => ?_) (fun c1 => ?_)
  · have h := h.1 c1
    refine g_iload_n dX4_of_59 rfl rfl ?_
    exact g_ireturn rfl dX4_of_60 h
  · have h := h.2 c1
    refine g_iload_n dX4_of_27 rfl rfl ?_
    refine g_aload_n dX4_of_28 rfl rfl ?_
    refine g_getR (r' := 29) flX4_14 (by decide) rfl (by decide) rfl dX4_of_29 ?_
    refine g_iload_n dX4_of_32 rfl rfl ?_
    refine g_iconst dX4_of_33 (by decide) ?_
    obtain ⟨p2, h⟩ := h
    refine g_isub dX4_of_34 p2 ?_
    refine g_iload dX4_of_35 rfl ?_
    obtain ⟨p3, h⟩ := h
    refine g_isub dX4_of_37 p3 ?_
    obtain ⟨p4, h⟩ := h
    obtain ⟨p5, h⟩ := h
    refine g_invVI (as := [.inl ((x2 - 1) - x4)]) (rest := [.inl x3]) okX7_get mlX4_39 (by decide) rfl ⟨_, _, rfl⟩ rfl ⟨Nat.le_of_ble_eq_true rfl, Nat.le_of_ble_eq_true rfl⟩ (Nat.le_of_ble_eq_true rfl) rfl dX4_of_38 (c_X7_get ⟨by decide, by decide, rfl, rfl, rfl⟩ p4 p5) (Or.inl rfl) (fun v6 σ7 e8 => ?_)
    obtain ⟨e8a, e8b⟩ := e8; subst v6; subst σ7
    refine g_aload_n dX4_of_41 rfl rfl ?_
    refine g_getR (r' := 31) flX4_20 (by decide) rfl (by decide) rfl dX4_of_42 ?_
    refine g_iload dX4_of_45 rfl ?_
    obtain ⟨p9, h⟩ := h
    obtain ⟨p10, h⟩ := h
    refine g_invVI (as := [.inl x4]) (rest := [.inl (σ 30 (((x2 - 1) - x4)).toNat), .inl x3]) okX7_get mlX4_39 (by decide) rfl ⟨_, _, rfl⟩ rfl ⟨Nat.le_of_ble_eq_true rfl, Nat.le_of_ble_eq_true rfl⟩ (Nat.le_of_ble_eq_true rfl) rfl dX4_of_47 (c_X7_get ⟨by decide, by decide, rfl, rfl, rfl⟩ p9 p10) (Or.inl rfl) (fun v11 σ12 e13 => ?_)
    obtain ⟨e13a, e13b⟩ := e13; subst v11; subst σ12
    obtain ⟨p14, h⟩ := h
    refine g_imul dX4_of_50 p14 ?_
    obtain ⟨p15, h⟩ := h
    refine g_iadd dX4_of_51 p15 ?_
    refine g_istore_n (ls' := [some (.inr 28), some (.inl x1), some (.inl x2), some (.inl (x3 + ((σ 30 (((x2 - 1) - x4)).toNat) * (σ 32 (x4).toNat)))), some (.inl x4)]) dX4_of_52 rfl (by decide) rfl ?_
    obtain ⟨p16, h⟩ := h
    refine g_iinc (ls' := [some (.inr 28), some (.inl x1), some (.inl x2), some (.inl (x3 + ((σ 30 (((x2 - 1) - x4)).toNat) * (σ 32 (x4).toNat)))), some (.inl (x4 + 1))]) dX4_of_53 (by decide) rfl p16 rfl ?_
    refine g_goto (tgt := 21) dX4_of_56 (by decide) ?_
    exact h
def row29 : isRow 29 25 := ⟨by decide, by decide, rfl, rfl, rfl⟩
def row31 : isRow 31 36 := ⟨by decide, by decide, rfl, rfl, rfl⟩
theorem c_X4_sortLoads {D : Dt} {y : Nat} {x1 : Int} {σ : Mem} (hw : WF D) (hD : CD D σ) (hy : y < 4) (ex : x1 = y) : CM mX4_sortLoads [.inr 28, .inl x1] σ (fun v σ1 => ∃ A : List Int, v = A.length ∧ A.length ≤ 20 ∧ hldI σ1 30 A ∧ srt A ∧ (∀ z ∈ A, 0 ≤ z ∧ z ≤ 198) ∧ (∀ x, (A.count x : Int) = fCnt D y x) ∧ Same [30] σ σ1) := by
  subst ex
  have hm := hw.2.1
  have outer : ∀ (d a : Nat) (A : List Int) (σ0 : Mem), a + d = dm D → A.length ≤ 4 * a → hldI σ0 30 A → srt A → (∀ z ∈ A, 0 ≤ z ∧ z ≤ 198) → (∀ x, (A.count x : Int) = sumF (fun a => sumF (fun j => if ld D y a (a + 1 + j) + ld D y (a + 1 + j) a = x ∧ 0 < x then 1 else 0) (dm D - 1 - a)) a) → Same [30] σ σ0 → GO none mX4_sortLoads 4 [some (.inr 28), some (.inl (y : Int)), some (.inl (A.length : Int)), some (.inl (a : Int)), none, none] [] σ0 (fun v σ1 => ∃ A : List Int, v = A.length ∧ A.length ≤ 20 ∧ hldI σ1 30 A ∧ srt A ∧ (∀ z ∈ A, 0 ≤ z ∧ z ≤ 198) ∧ (∀ x, (A.count x : Int) = fCnt D y x) ∧ Same [30] σ σ1) := by
    intro d
    induction d with
    | zero =>
      intro a A σ0 hd hl hp hs hb hc hS
      have e14 : σ0 14 6 = dm D := by rw [hS 14 (by decide)]; exact hD.2.1
      refine rX4_sortLoads_4 ⟨fun _ => ⟨A, rfl, by omega, hp, hs, hb, fun x => ?_, hS⟩, fun h => by omega⟩
      rw [hc x, show a = dm D by omega]
      rfl
    | succ d ih =>
      intro a A σ0 hd hl hp hs hb hc hS
      have e14 : σ0 14 6 = dm D := by rw [hS 14 (by decide)]; exact hD.2.1
      refine rX4_sortLoads_4 ⟨fun h => by omega, fun _ => ⟨by omega, ?_⟩⟩
      have inner : ∀ (d2 j : Nat) (A2 : List Int) (σ2 : Mem), a + 1 + j + d2 = dm D → A2.length ≤ 4 * a + j → hldI σ2 30 A2 → srt A2 → (∀ z ∈ A2, 0 ≤ z ∧ z ≤ 198) → (∀ x, (A2.count x : Int) = sumF (fun a => sumF (fun j => if ld D y a (a + 1 + j) + ld D y (a + 1 + j) a = x ∧ 0 < x then 1 else 0) (dm D - 1 - a)) a + sumF (fun j => if ld D y a (a + 1 + j) + ld D y (a + 1 + j) a = x ∧ 0 < x then 1 else 0) j) → Same [30] σ σ2 → GO none mX4_sortLoads 20 [some (.inr 28), some (.inl (y : Int)), some (.inl (A2.length : Int)), some (.inl (a : Int)), some (.inl ((a + 1 + j : Nat) : Int)), none] [] σ2 (fun v σ1 => ∃ A : List Int, v = A.length ∧ A.length ≤ 20 ∧ hldI σ1 30 A ∧ srt A ∧ (∀ z ∈ A, 0 ≤ z ∧ z ≤ 198) ∧ (∀ x, (A.count x : Int) = fCnt D y x) ∧ Same [30] σ σ1) := by
        intro d2
        induction d2 with
        | zero =>
          intro j A2 σ2 hd2 hl2 hp2 hs2 hb2 hc2 hS2
          have e14 : σ2 14 6 = dm D := by rw [hS2 14 (by decide)]; exact hD.2.1
          refine rX4_sortLoads_20 ⟨fun _ => ⟨by omega, ?_⟩, fun h => by omega⟩
          refine ih (a + 1) A2 σ2 (by omega) (by omega) hp2 hs2 hb2 (fun x => ?_) hS2
          rw [hc2 x, sumF_succ, show dm D - 1 - a = j by omega]
        | succ d2 ih2 =>
          intro j A2 σ2 hd2 hl2 hp2 hs2 hb2 hc2 hS2
          have e14 : σ2 14 6 = dm D := by rw [hS2 14 (by decide)]; exact hD.2.1
          have ha : a < dm D := by omega
          have hb' : a + 1 + j < dm D := by omega
          have l1 := ld_bd hw hy ha hb'
          have l2 := ld_bd hw hy hb' ha
          have e16 : σ2 16 = dL D := by rw [hS2 16 (by decide)]; exact hD.2.2.2.2.2.1
          have i1 : (25 * (y : Int) + 5 * (a : Int) + ((a + 1 + j : Nat) : Int)).toNat = 25 * y + 5 * a + (a + 1 + j) := by omega
          have i2 : (25 * (y : Int) + 5 * ((a + 1 + j : Nat) : Int) + (a : Int)).toNat = 25 * y + 5 * (a + 1 + j) + a := by omega
          have s1 : σ2 16 (25 * y + 5 * a + (a + 1 + j)) = ld D y a (a + 1 + j) := by rw [e16]; rfl
          have s2 : σ2 16 (25 * y + 5 * (a + 1 + j) + a) = ld D y (a + 1 + j) a := by rw [e16]; rfl
          refine rX4_sortLoads_20 ⟨fun h => by omega, fun _ => ?_⟩
          rw [i1, i2, s1, s2]
          refine ⟨by omega, by omega, by omega, by omega, by omega, by omega, by omega, fun h0 => ⟨by omega, ?_⟩, fun h0 => ?_⟩
          · refine ih2 (j + 1) A2 σ2 (by omega) (by omega) hp2 hs2 hb2 (fun x => ?_) hS2
            rw [hc2 x, sumF_succ, if_neg (by omega), Int.add_zero]
          · refine CM.mono (fun v σ9 h => ?_) (c_X4_insert (l := A2) row29 (by omega) (by omega) hp2 hs2 rfl)
            obtain ⟨A3, q1, q2, q3, q4⟩ := h
            have hl3 : A3.length = A2.length + 1 := by rw [q3.length_eq, List.length_cons]
            refine ⟨by omega, by omega, ?_⟩
            have := ih2 (j + 1) A3 σ9 (by omega) (by omega) q1 q2 (fun z hz => ?_) (fun x => ?_) (hS2.tr q4)
            · rw [hl3] at this
              exact this
            · rcases List.mem_cons.mp ((q3.mem_iff).mp hz) with rfl | hz
              · omega
              · exact hb2 z hz
            · rw [cnt_cons q3, hc2 x, sumF_succ, ← Int.add_assoc]
              by_cases e : ld D y a (a + 1 + j) + ld D y (a + 1 + j) a = x
              · rw [if_pos e, if_pos ⟨e, by omega⟩]
              · rw [if_neg e, if_neg (fun q => e q.1)]
      exact inner (dm D - (a + 1)) 0 A σ0 (by omega) (by omega) hp hs hb (fun x => by rw [hc x]; simp [sumF]) hS
  refine rX4_sortLoads_0 ?_
  exact outer (dm D) 0 [] σ (by omega) (by simp) (fun i h => by simp at h) List.Pairwise.nil (by simp) (fun x => by simp [sumF]) Same.rf
theorem c_X4_sortWays {D : Dt} {σ : Mem} (hw : WF D) (hD : CD D σ) : CM mX4_sortWays [.inr 28] σ (fun v σ1 => ∃ B : List Int, v = B.length ∧ B.length ≤ 30 ∧ hldI σ1 32 B ∧ srt B ∧ (∀ z ∈ B, 0 ≤ z ∧ z ≤ 36) ∧ (∀ x, (B.count x : Int) = wCnt D x) ∧ Same [32] σ σ1) := by
  have hn := hw.1
  have outer : ∀ (d a : Nat) (A : List Int) (σ0 : Mem), a + d = dn D → A.length ≤ 5 * a → hldI σ0 32 A → srt A → (∀ z ∈ A, 0 ≤ z ∧ z ≤ 36) → (∀ x, (A.count x : Int) = sumF (fun a => sumF (fun j => if dW D a (a + 1 + j) = x ∧ x ≠ -1 then 1 else 0) (dn D - 1 - a)) a) → Same [32] σ σ0 → GO none mX4_sortWays 4 [some (.inr 28), some (.inl (A.length : Int)), some (.inl (a : Int)), none, none] [] σ0 (fun v σ1 => ∃ A : List Int, v = A.length ∧ A.length ≤ 30 ∧ hldI σ1 32 A ∧ srt A ∧ (∀ z ∈ A, 0 ≤ z ∧ z ≤ 36) ∧ (∀ x, (A.count x : Int) = wCnt D x) ∧ Same [32] σ σ1) := by
    intro d
    induction d with
    | zero =>
      intro a A σ0 hd hl hp hs hb hc hS
      have e14 : σ0 1 7 = dn D := by rw [hS 1 (by decide)]; exact hD.1
      refine rX4_sortWays_4 ⟨fun _ => ⟨A, rfl, by omega, hp, hs, hb, fun x => ?_, hS⟩, fun h => by omega⟩
      rw [hc x, show a = dn D by omega]
      rfl
    | succ d ih =>
      intro a A σ0 hd hl hp hs hb hc hS
      have e14 : σ0 1 7 = dn D := by rw [hS 1 (by decide)]; exact hD.1
      refine rX4_sortWays_4 ⟨fun h => by omega, fun _ => ⟨by omega, ?_⟩⟩
      have inner : ∀ (d2 j : Nat) (A2 : List Int) (σ2 : Mem), a + 1 + j + d2 = dn D → A2.length ≤ 5 * a + j → hldI σ2 32 A2 → srt A2 → (∀ z ∈ A2, 0 ≤ z ∧ z ≤ 36) → (∀ x, (A2.count x : Int) = sumF (fun a => sumF (fun j => if dW D a (a + 1 + j) = x ∧ x ≠ -1 then 1 else 0) (dn D - 1 - a)) a + sumF (fun j => if dW D a (a + 1 + j) = x ∧ x ≠ -1 then 1 else 0) j) → Same [32] σ σ2 → GO none mX4_sortWays 19 [some (.inr 28), some (.inl (A2.length : Int)), some (.inl (a : Int)), some (.inl ((a + 1 + j : Nat) : Int)), none] [] σ2 (fun v σ1 => ∃ A : List Int, v = A.length ∧ A.length ≤ 30 ∧ hldI σ1 32 A ∧ srt A ∧ (∀ z ∈ A, 0 ≤ z ∧ z ≤ 36) ∧ (∀ x, (A.count x : Int) = wCnt D x) ∧ Same [32] σ σ1) := by
        intro d2
        induction d2 with
        | zero =>
          intro j A2 σ2 hd2 hl2 hp2 hs2 hb2 hc2 hS2
          have e14 : σ2 1 7 = dn D := by rw [hS2 1 (by decide)]; exact hD.1
          refine rX4_sortWays_19 ⟨fun _ => ⟨by omega, ?_⟩, fun h => by omega⟩
          refine ih (a + 1) A2 σ2 (by omega) (by omega) hp2 hs2 hb2 (fun x => ?_) hS2
          rw [hc2 x, sumF_succ, show dn D - 1 - a = j by omega]
        | succ d2 ih2 =>
          intro j A2 σ2 hd2 hl2 hp2 hs2 hb2 hc2 hS2
          have e14 : σ2 1 7 = dn D := by rw [hS2 1 (by decide)]; exact hD.1
          have ha : a < dn D := by omega
          have hb' : a + 1 + j < dn D := by omega
          have b1 := hw.2.2.2.1 _ _ ha hb'
          have e7 : σ2 7 (6 * (a : Int) + ((a + 1 + j : Nat) : Int)).toNat = dW D a (a + 1 + j) := by
            rw [show (6 * (a : Int) + ((a + 1 + j : Nat) : Int)).toNat = 6 * a + (a + 1 + j) by omega, hS2 7 (by decide)]
            exact hD.2.2.1 _ _ ha hb'
          refine rX4_sortWays_19 ⟨fun h => by omega, fun _ => ?_⟩
          rw [e7]
          refine ⟨by omega, by omega, by omega, by omega, fun h0 => ⟨by omega, ?_⟩, fun h0 => ?_⟩
          · refine ih2 (j + 1) A2 σ2 (by omega) (by omega) hp2 hs2 hb2 (fun x => ?_) hS2
            rw [hc2 x, sumF_succ, if_neg (by omega), Int.add_zero]
          · refine CM.mono (fun v σ9 h => ?_) (c_X4_insert (l := A2) row31 (by omega) (by omega) hp2 hs2 rfl)
            obtain ⟨A3, q1, q2, q3, q4⟩ := h
            have hl3 : A3.length = A2.length + 1 := by rw [q3.length_eq, List.length_cons]
            refine ⟨by omega, by omega, ?_⟩
            have := ih2 (j + 1) A3 σ9 (by omega) (by omega) q1 q2 (fun z hz => ?_) (fun x => ?_) (hS2.tr q4)
            · rw [hl3] at this
              exact this
            · rcases List.mem_cons.mp ((q3.mem_iff).mp hz) with rfl | hz
              · omega
              · exact hb2 z hz
            · rw [cnt_cons q3, hc2 x, sumF_succ, ← Int.add_assoc]
              by_cases e : dW D a (a + 1 + j) = x
              · rw [if_pos e, if_pos ⟨e, by omega⟩]
              · rw [if_neg e, if_neg (fun q => e q.1)]
      exact inner (dn D - (a + 1)) 0 A σ0 (by omega) (by omega) hp hs hb (fun x => by rw [hc x]; simp [sumF]) hS
  refine rX4_sortWays_0 ?_
  exact outer (dn D) 0 [] σ (by omega) (by simp) (fun i h => by simp at h) List.Pairwise.nil (by simp) (fun x => by simp [sumF]) Same.rf
theorem getDI {l : List Int} {i : Nat} (h : i < l.length) : l.getD i 0 = l[i] := by simp [List.getD, h]
theorem c_X4_of {D : Dt} {y : Nat} {x1 : Int} {σ : Mem} (hw : WF D) (hD : CD D σ) (hy : y < 4) (ex : x1 = y) : CM mX4_of [.inr 28, .inl x1] σ (fun v σ1 => FloorIs D y v ∧ Same [30, 32] σ σ1) := by
  refine rX4_of_0 (CM.mono (fun v σ2 h => ?_) (c_X4_sortLoads hw hD hy ex))
  obtain ⟨A, rfl, a2, a3, a4, a5, a6, a7⟩ := h
  refine CM.mono (fun v σ5 h => ?_) (c_X4_sortWays hw (hD.same a7 (by decide)))
  obtain ⟨B, rfl, b2, b3, b4, b5, b6, b7⟩ := h
  have hS : Same [30, 32] σ σ5 := (a7.wk (by decide)).tr (b7.wk (by decide))
  have hA : hldI σ5 30 A := a3.cong (b7 30 (by decide))
  refine ⟨fun hle => ?_, fun hlt => ⟨⟨A, B, a4, b4, a6, b6, ?_⟩, hS⟩⟩
  · have hsum : ∀ i, i ≤ A.length → 0 ≤ sumF (fun i => A.getD (A.length - 1 - i) 0 * B.getD i 0) i ∧ sumF (fun i => A.getD (A.length - 1 - i) 0 * B.getD i 0) i ≤ i * 7128 := fun i hi => by
      refine sumF_bd (fun j hj => ?_)
      have h1 := a5 _ (List.getElem_mem (l := A) (n := A.length - 1 - j) (by omega))
      have h2 := b5 _ (List.getElem_mem (l := B) (n := j) (by omega))
      rw [getDI (by omega), getDI (by omega)]
      exact ⟨Int.mul_nonneg h1.1 h2.1, (mul_bd h1.1 h1.2 (by omega) h2.2).2⟩
    have key : ∀ (d i : Nat), i + d = A.length → GO none mX4_of 21 [some (.inr 28), some (.inl x1), some (.inl (A.length : Int)), some (.inl (sumF (fun i => A.getD (A.length - 1 - i) 0 * B.getD i 0) i)), some (.inl (i : Int))] [] σ5 (fun v σ1 => FloorIs D y v ∧ Same [30, 32] σ σ1) := by
      intro d
      induction d with
      | zero =>
        intro i hd
        refine rX4_of_21 ⟨fun _ => ⟨⟨A, B, a4, b4, a6, b6, ?_⟩, hS⟩, fun h => by omega⟩
        unfold floorV
        rw [if_neg (by omega), show i = A.length by omega]
      | succ d ih =>
        intro i hd
        have e1 : ((A.length : Int) - 1 - (i : Int)).toNat = A.length - 1 - i := by omega
        have e2 : σ5 30 (A.length - 1 - i) = A.getD (A.length - 1 - i) 0 := by rw [getDI (by omega)]; exact hA _ (by omega)
        have e3 : σ5 32 i = B.getD i 0 := by rw [getDI (by omega)]; exact b3 _ (by omega)
        have s1 := hsum i (by omega)
        have s2 := hsum (i + 1) (by omega)
        have s3 : sumF (fun i => A.getD (A.length - 1 - i) 0 * B.getD i 0) (i + 1) = sumF (fun i => A.getD (A.length - 1 - i) 0 * B.getD i 0) i + A.getD (A.length - 1 - i) 0 * B.getD i 0 := rfl
        refine rX4_of_21 ⟨fun h => by omega, fun _ => ?_⟩
        rw [e1, Int.toNat_natCast, e2, e3]
        refine ⟨by omega, by omega, by omega, by omega, by omega, by omega, by omega, by omega, by omega, ?_⟩
        rw [← s3]
        exact ih (i + 1) (by omega)
    exact key A.length 0 (by omega)
  · unfold floorV
    rw [if_pos (by omega)]
