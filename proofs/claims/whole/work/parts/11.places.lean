/-! ===== the next free slot, the first places, the next places ===== -/
def nfF (pre : List Nat) : Nat → Nat → Option Nat
  | _, 0 => none
  | s, d + 1 => if s ∈ pre then nfF pre (s + 1) d else some s
def nf (n : Nat) (pre : List Nat) (lo : Nat) : Option Nat := nfF pre lo (n - lo)
theorem nfF_succ {pre : List Nat} {s d : Nat} : nfF pre s (d + 1) = if s ∈ pre then nfF pre (s + 1) d else some s := rfl
theorem nfF_some {pre : List Nat} : ∀ {d s r : Nat}, nfF pre s d = some r → s ≤ r ∧ r < s + d ∧ r ∉ pre ∧ ∀ j, s ≤ j → j < r → j ∈ pre
  | 0, s, r, h => by cases h
  | d + 1, s, r, h => by
    unfold nfF at h
    by_cases hm : s ∈ pre
    · rw [if_pos hm] at h
      obtain ⟨h1, h2, h3, h4⟩ := nfF_some h
      refine ⟨by omega, by omega, h3, fun j q1 q2 => ?_⟩
      by_cases e : j = s
      · rw [e]; exact hm
      · exact h4 j (by omega) q2
    · rw [if_neg hm] at h
      cases h
      exact ⟨Nat.le_refl _, by omega, hm, fun j q1 q2 => by omega⟩
theorem nfF_none {pre : List Nat} : ∀ {d s : Nat}, nfF pre s d = none → ∀ j, s ≤ j → j < s + d → j ∈ pre
  | 0, s, _, j, h1, h2 => by omega
  | d + 1, s, h, j, h1, h2 => by
    unfold nfF at h
    by_cases hm : s ∈ pre
    · rw [if_pos hm] at h
      by_cases e : j = s
      · rw [e]; exact hm
      · exact nfF_none h j (by omega) (by omega)
    · rw [if_neg hm] at h
      cases h
theorem nf_some {n : Nat} {pre : List Nat} {lo r : Nat} (h : nf n pre lo = some r) : lo ≤ r ∧ r < n ∧ r ∉ pre := by
  obtain ⟨h1, h2, h3, -⟩ := nfF_some h
  exact ⟨h1, by omega, h3⟩
theorem nf_free {n : Nat} {pre : List Nat} (h : pre.length < n) : ∃ r, nf n pre 0 = some r := by
  cases e : nf n pre 0 with
  | some r => exact ⟨r, rfl⟩
  | none =>
    have h1 := nfF_none e
    have h2 := List.Nodup.length_le_of_subset (List.nodup_range (n := n)) (l₂ := pre) (fun j hj => h1 j (Nat.zero_le _) (by have := List.mem_range.mp hj; omega))
    rw [List.length_range] at h2
    omega
theorem whoF_mem {σ : Mem} {a : Nat} {pre : List Nat} (h : hld σ a pre) (s : Nat) : whoF (σ a) (s : Int) 0 pre.length = -1 ↔ s ∉ pre := by
  rcases whoF_spec (σ a) (s : Int) pre.length 0 with ⟨h1, h2⟩ | ⟨j, h1, -, h3, h4, -⟩
  · refine ⟨fun _ hm => ?_, fun _ => h1⟩
    obtain ⟨i, hi, e⟩ := List.getElem_of_mem hm
    exact h2 i (Nat.zero_le _) (by omega) (by rw [h i hi, e])
  · rw [h1]
    refine ⟨fun q => by omega, fun q => absurd ?_ q⟩
    have hj : j < pre.length := by omega
    have e := (h j hj).symm.trans h4
    have e2 : pre[j] = s := by omega
    exact e2 ▸ List.getElem_mem hj
def sbR (n : Nat) (pre : List Nat) (lo : Nat) (a : Nat) (σ : Mem) (v : Int) (σ1 : Mem) : Prop := match nf n pre lo with
  | none => v = 0 ∧ σ1 = σ
  | some s => v = 1 ∧ σ1 = mu σ a pre.length (s : Int)
set_option maxRecDepth 100000 in
theorem rX8_seatBehind_0 {x1 x2 x3 : Int} {k0 : Nat} (hk0 : isSeats k0) {σ : Mem} {Q : Int → Mem → Prop} (h : ((inR (x2 + 1)) ∧ (GO none mX8_seatBehind 5 [some (.inr k0), some (.inl x1), some (.inl x2), some (.inl x3), some (.inl (x2 + 1))] [] σ Q))) : CM mX8_seatBehind [.inr k0, .inl x1, .inl x2, .inl x3] σ Q := by
  refine CM_of_GO (by decide +kernel) rfl (Nat.le_of_ble_eq_true rfl) ?_
  show GO none mX8_seatBehind 0 [some (.inr k0), some (.inl x1), some (.inl x2), some (.inl x3), none] [] σ Q
  refine g_iload_n dX8_seatBehind_0 rfl rfl ?_
  refine g_iconst dX8_seatBehind_1 (by decide) ?_
  obtain ⟨p1, h⟩ := h
  refine g_iadd dX8_seatBehind_2 p1 ?_
  refine g_istore (ls' := [some (.inr k0), some (.inl x1), some (.inl x2), some (.inl x3), some (.inl (x2 + 1))]) dX8_seatBehind_3 (by decide) rfl ?_
  exact h
set_option maxRecDepth 100000 in
theorem rX8_seatBehind_5 {x1 x2 x3 x4 : Int} {k0 : Nat} (hk0 : isSeats k0) {σ : Mem} {Q : Int → Mem → Prop} (h : (x3 ≤ x4 → Q 0 σ) ∧ (x4 < x3 → ((x1 ≤ 5) ∧ (((whoF (σ (k0 + 2)) x4 0 (x1).toNat) ≠ (-1) → ((inR (x4 + 1)) ∧ (GO none mX8_seatBehind 5 [some (.inr k0), some (.inl x1), some (.inl x2), some (.inl x3), some (.inl (x4 + 1))] [] σ Q))) ∧ ((whoF (σ (k0 + 2)) x4 0 (x1).toNat) = (-1) → ((0 ≤ x1) ∧ (((x1 < 5) ∧ (Q 1 (mu σ (k0 + 2) (x1).toNat x4)))))))))) : GO none mX8_seatBehind 5 [some (.inr k0), some (.inl x1), some (.inl x2), some (.inl x3), some (.inl x4)] [] σ Q := by
  refine g_iload dX8_seatBehind_5 rfl ?_
  refine g_iload_n dX8_seatBehind_7 rfl rfl ?_
  refine g_icmp_ge (tgt := 40) dX8_seatBehind_8 (by decide) (fun c1 => ?_) (fun c1 => ?_)
  · have h := h.1 c1
    refine g_iconst dX8_seatBehind_40 (by decide) ?_
    exact g_zreturn rfl dX8_seatBehind_41 (by decide) h
  · have h := h.2 c1
    refine g_aload_n dX8_seatBehind_11 rfl rfl ?_
    refine g_iload dX8_seatBehind_12 rfl ?_
    refine g_iload_n dX8_seatBehind_14 rfl rfl ?_
    obtain ⟨p2, h⟩ := h
    refine g_invVI (as := [.inl x4, .inl x1]) (rest := []) okX8_whoIsAt mlX8_36 hk0.1 hk0.2.1 ⟨_, _, rfl⟩ rfl ⟨Nat.le_of_ble_eq_true rfl, Nat.le_of_ble_eq_true rfl⟩ (Nat.le_of_ble_eq_true rfl) rfl dX8_seatBehind_15 (c_X8_whoIsAt hk0 p2) (Or.inl rfl) (fun v3 σ4 e5 => ?_)
    obtain ⟨e5a, e5b⟩ := e5; subst v3; subst σ4
    refine g_iconst dX8_seatBehind_18 (by decide) ?_
    refine g_icmp_ne (tgt := 34) dX8_seatBehind_19 (by decide) (fun c6 => ?_) (fun c6 => ?_)
    · have h := h.1 c6
      obtain ⟨p7, h⟩ := h
      refine g_iinc (ls' := [some (.inr k0), some (.inl x1), some (.inl x2), some (.inl x3), some (.inl (x4 + 1))]) dX8_seatBehind_34 (by decide) rfl p7 rfl ?_
      refine g_goto (tgt := 5) dX8_seatBehind_37 (by decide) ?_
      exact h
    · have h := h.2 c6
      refine g_aload_n dX8_seatBehind_22 rfl rfl ?_
      refine g_getR (r' := (k0 + 1)) flX8_14 hk0.1 hk0.2.1 (by decide) hk0.2.2.1 dX8_seatBehind_23 ?_
      refine g_iload_n dX8_seatBehind_26 rfl rfl ?_
      refine g_iload dX8_seatBehind_27 rfl ?_
      obtain ⟨p8, h⟩ := h
      obtain ⟨p9, h⟩ := h
      refine g_invVV (as := [.inl x1, .inl x4]) (rest := []) okX7_set mlX8_28 hk0.2.2.2.2.1 hk0.2.2.2.2.2.2.1 ⟨_, _, rfl⟩ rfl ⟨Nat.le_of_ble_eq_true rfl, Nat.le_of_ble_eq_true rfl⟩ (Nat.le_of_ble_eq_true rfl) rfl dX8_seatBehind_29 (c_X7_set hk0.2.2.2.2 p8 p9) rfl (fun σ11 e12 => ?_)
      subst σ11
      refine g_iconst dX8_seatBehind_32 (by decide) ?_
      exact g_zreturn rfl dX8_seatBehind_33 (by decide) h
theorem c_X8_seatBehind {k : Nat} {pre : List Nat} {lo n : Nat} {x1 x2 x3 : Int} {σ : Mem} (hk : isSeats k) (hp : hld σ (k + 2) pre) (h5 : pre.length < 5) (hlo : lo ≤ 10) (hn : n ≤ 6) (e1 : x1 = pre.length) (e2 : x2 = (lo : Int) - 1) (e3 : x3 = n) : CM mX8_seatBehind [.inr k, .inl x1, .inl x2, .inl x3] σ (sbR n pre lo (k + 2) σ) := by
  subst e1 e2 e3
  have key : ∀ (d s : Nat), s ≤ 20 → (n = s + d ∨ (d = 0 ∧ n ≤ s)) → nfF pre s d = nf n pre lo → GO none mX8_seatBehind 5 [some (.inr k), some (.inl (pre.length : Int)), some (.inl ((lo : Int) - 1)), some (.inl (n : Int)), some (.inl (s : Int))] [] σ (sbR n pre lo (k + 2) σ) := by
    intro d
    induction d with
    | zero =>
      intro s h20 hi he
      refine rX8_seatBehind_5 hk ⟨fun h => ?_, fun h => by omega⟩
      unfold sbR
      rw [← he]
      exact ⟨rfl, rfl⟩
    | succ d ih =>
      intro s h20 hi he
      refine rX8_seatBehind_5 hk ⟨fun h => by omega, fun h => ⟨by omega, fun h2 => ⟨by omega, ?_⟩, fun h2 => ⟨by omega, by omega, ?_⟩⟩⟩
      · rw [Int.toNat_natCast, Ne, whoF_mem hp] at h2
        refine ih (s + 1) (by omega) (by omega) ?_
        rw [← he, nfF_succ, if_pos (Classical.not_not.mp h2)]
      · rw [Int.toNat_natCast, whoF_mem hp] at h2
        unfold sbR
        rw [← he, nfF_succ, if_neg h2, Int.toNat_natCast]
        exact ⟨rfl, rfl⟩
  refine rX8_seatBehind_0 hk ⟨by omega, ?_⟩
  have := key (n - lo) lo (by omega) (by omega) rfl
  rw [show ((lo : Int) - 1 + 1) = (lo : Int) by omega]
  exact this
/-- d shops more, each on the first free slot -/
def fillF (n : Nat) : Nat → List Nat → List Nat
  | 0, p => p
  | d + 1, p => match nf n p 0 with
    | some s => fillF n d (p ++ [s])
    | none => p
theorem fillF_len (n : Nat) : ∀ (d : Nat) (p : List Nat), p.length + d ≤ n → (fillF n d p).length = p.length + d
  | 0, p, _ => rfl
  | d + 1, p, h => by
    obtain ⟨r, hr⟩ := nf_free (n := n) (pre := p) (by omega)
    unfold fillF
    rw [hr]
    show (fillF n d (p ++ [r])).length = _
    rw [fillF_len n d (p ++ [r]) (by rw [List.length_append, List.length_singleton]; omega), List.length_append, List.length_singleton]
    omega
set_option maxRecDepth 100000 in
theorem rX8_begin_0 {x1 x2 : Int} {k0 : Nat} (hk0 : isSeats k0) {σ : Mem} {Q : Int → Mem → Prop} (h : GO none mX8_begin 7 [some (.inr k0), some (.inl x1), some (.inl x2), some (.inl 0)] [] (mu σ k0 1 x1) Q) : CM mX8_begin [.inr k0, .inl x1, .inl x2] σ Q := by
  refine CM_of_GO (by decide +kernel) rfl (Nat.le_of_ble_eq_true rfl) ?_
  show GO none mX8_begin 0 [some (.inr k0), some (.inl x1), some (.inl x2), none] [] σ Q
  refine g_aload_n dX8_begin_0 rfl rfl ?_
  refine g_iload_n dX8_begin_1 rfl rfl ?_
  refine g_putI fpX8_20 hk0.1 hk0.2.1 (by decide) hk0.2.2.2.1 (Or.inl rfl) dX8_begin_2 ?_
  refine g_iconst dX8_begin_5 (by decide) ?_
  refine g_istore_n (ls' := [some (.inr k0), some (.inl x1), some (.inl x2), some (.inl 0)]) dX8_begin_6 rfl (by decide) rfl ?_
  exact h
set_option maxRecDepth 100000 in
theorem rX8_begin_7 {x1 x2 x3 : Int} {k0 : Nat} (hk0 : isSeats k0) {σ : Mem} {Q : Int → Mem → Prop} (h : (x1 ≤ x3 → Q 0 σ) ∧ (x3 < x1 → CM mX8_seatBehind [.inr k0, .inl x3, .inl (-1), .inl x2] σ (fun v2 σ3 => ((inR (x3 + 1)) ∧ (GO none mX8_begin 7 [some (.inr k0), some (.inl x1), some (.inl x2), some (.inl (x3 + 1))] [] σ3 Q))))) : GO none mX8_begin 7 [some (.inr k0), some (.inl x1), some (.inl x2), some (.inl x3)] [] σ Q := by
  refine g_iload_n dX8_begin_7 rfl rfl ?_
  refine g_iload_n dX8_begin_8 rfl rfl ?_
  refine g_icmp_ge (tgt := 26) dX8_begin_9 (by decide) (fun c1 => ?_) (fun c1 => ?_)
  · have h := h.1 c1
    exact g_return rfl dX8_begin_26 h
  · have h := h.2 c1
    refine g_aload_n dX8_begin_12 rfl rfl ?_
    refine g_iload_n dX8_begin_13 rfl rfl ?_
    refine g_iconst dX8_begin_14 (by decide) ?_
    refine g_iload_n dX8_begin_15 rfl rfl ?_
    refine g_invVI (as := [.inl x3, .inl (-1), .inl x2]) (rest := []) okX8_seatBehind mlX8_32 hk0.1 hk0.2.1 ⟨_, _, rfl⟩ rfl ⟨Nat.le_of_ble_eq_true rfl, Nat.le_of_ble_eq_true rfl⟩ (Nat.le_of_ble_eq_true rfl) rfl dX8_begin_16 h (Or.inr rfl) (fun v2 σ3 e4 => ?_)
    have h := e4
    refine g_pop dX8_begin_19 ?_
    obtain ⟨p5, h⟩ := h
    refine g_iinc (ls' := [some (.inr k0), some (.inl x1), some (.inl x2), some (.inl (x3 + 1))]) dX8_begin_20 (by decide) rfl p5 rfl ?_
    refine g_goto (tgt := 7) dX8_begin_23 (by decide) ?_
    exact h
theorem c_X8_begin {k : Nat} {m n : Nat} {x1 x2 : Int} {σ : Mem} (hk : isSeats k) (hmn : m ≤ n) (hm : m ≤ 5) (hn : n ≤ 6) (e1 : x1 = m) (e2 : x2 = n) : CM mX8_begin [.inr k, .inl x1, .inl x2] σ (fun _ σ1 => σ1 k 1 = m ∧ hld σ1 (k + 2) (fillF n m []) ∧ Same [k, k + 2] σ σ1) := by
  subst e1 e2
  have key : ∀ (d : Nat) (p : List Nat) (σ0 : Mem), p.length + d = m → σ0 k 1 = m → hld σ0 (k + 2) p → Same [k, k + 2] σ σ0 → GO none mX8_begin 7 [some (.inr k), some (.inl (m : Int)), some (.inl (n : Int)), some (.inl (p.length : Int))] [] σ0 (fun _ σ1 => σ1 k 1 = m ∧ hld σ1 (k + 2) (fillF n d p) ∧ Same [k, k + 2] σ σ1) := by
    intro d
    induction d with
    | zero =>
      intro p σ0 hd h1 h2 h3
      exact rX8_begin_7 hk ⟨fun h => ⟨h1, h2, h3⟩, fun h => by omega⟩
    | succ d ih =>
      intro p σ0 hd h1 h2 h3
      obtain ⟨r, hr⟩ := nf_free (n := n) (pre := p) (by omega)
      refine rX8_begin_7 hk ⟨fun h => by omega, fun h => ?_⟩
      refine CM.mono (fun v σ1 hq => ?_) (c_X8_seatBehind (lo := 0) hk h2 (by omega) (by omega) hn rfl rfl rfl)
      unfold sbR at hq
      rw [hr] at hq
      obtain ⟨-, rfl⟩ := hq
      refine ⟨by omega, ?_⟩
      have := ih (p ++ [r]) (mu σ0 (k + 2) p.length r) (by rw [List.length_append, List.length_singleton]; omega) (by rw [mu_ne k (by omega)]; exact h1) (h2.snoc r) (h3.tr (Same.mu (by simp)))
      rw [List.length_append, List.length_singleton] at this
      unfold fillF
      rw [hr]
      exact this
  refine rX8_begin_0 hk ?_
  exact key m [] _ (by simp) (by rw [mu_at, if_pos rfl]) hld_nil (Same.mu (by simp))
/-- the next places in their order -/
def nxtA (n : Nat) : Nat → List Nat → Option (List Nat)
  | 0, _ => none
  | t + 1, p => match nf n (p.take t) (p.getD t 0 + 1) with
    | some s => some (fillF n (p.length - (t + 1)) (p.take t ++ [s]))
    | none => nxtA n t p
def nxt (n : Nat) (p : List Nat) : Option (List Nat) := nxtA n p.length p
set_option maxRecDepth 100000 in
theorem rX8_goOn_0 {x1 : Int} {k0 : Nat} (hk0 : isSeats k0) {σ : Mem} {Q : Int → Mem → Prop} (h : ((inR ((σ k0 1) - 1)) ∧ (GO none mX8_goOn 7 [some (.inr k0), some (.inl x1), some (.inl ((σ k0 1) - 1)), none] [] σ Q))) : CM mX8_goOn [.inr k0, .inl x1] σ Q := by
  refine CM_of_GO (by decide +kernel) rfl (Nat.le_of_ble_eq_true rfl) ?_
  show GO none mX8_goOn 0 [some (.inr k0), some (.inl x1), none, none] [] σ Q
  refine g_aload_n dX8_goOn_0 rfl rfl ?_
  refine g_getI flX8_20 hk0.1 hk0.2.1 (by decide) hk0.2.2.2.1 dX8_goOn_1 ?_
  refine g_iconst dX8_goOn_4 (by decide) ?_
  obtain ⟨p1, h⟩ := h
  refine g_isub dX8_goOn_5 p1 ?_
  refine g_istore_n (ls' := [some (.inr k0), some (.inl x1), some (.inl ((σ k0 1) - 1)), none]) dX8_goOn_6 rfl (by decide) rfl ?_
  exact h
set_option maxRecDepth 100000 in
theorem rX8_goOn_7 {x1 x2 : Int} {k0 : Nat} (hk0 : isSeats k0) {σ : Mem} {Q : Int → Mem → Prop} (h : (x2 < 0 → ((inR (x2 + 1)) ∧ (GO none mX8_goOn 38 [some (.inr k0), some (.inl x1), some (.inl x2), some (.inl (x2 + 1))] [] σ Q))) ∧ (0 ≤ x2 → ((x2 < 5) ∧ (CM mX8_seatBehind [.inr k0, .inl x2, .inl (σ (k0 + 2) (x2).toNat), .inl x1] σ (fun v7 σ8 => (v7 ≠ 0 → ((inR (x2 + 1)) ∧ (GO none mX8_goOn 38 [some (.inr k0), some (.inl x1), some (.inl x2), some (.inl (x2 + 1))] [] σ8 Q))) ∧ (v7 = 0 → ((inR (x2 + (-1))) ∧ (GO none mX8_goOn 7 [some (.inr k0), some (.inl x1), some (.inl (x2 + (-1))), none] [] σ8 Q)))))))) : GO none mX8_goOn 7 [some (.inr k0), some (.inl x1), some (.inl x2), none] [] σ Q := by
  refine g_iload_n dX8_goOn_7 rfl rfl ?_
  refine g_if_lt (tgt := 34) dX8_goOn_8 (by decide) (fun c1 => ?_) (fun c1 => ?_)
  · have h := h.1 c1
    refine g_iload_n dX8_goOn_34 rfl rfl ?_
    refine g_iconst dX8_goOn_35 (by decide) ?_
    obtain ⟨p2, h⟩ := h
    refine g_iadd dX8_goOn_36 p2 ?_
    refine g_istore_n (ls' := [some (.inr k0), some (.inl x1), some (.inl x2), some (.inl (x2 + 1))]) dX8_goOn_37 rfl (by decide) rfl ?_
    exact h
  · have h := h.2 c1
    refine g_aload_n dX8_goOn_11 rfl rfl ?_
    refine g_iload_n dX8_goOn_12 rfl rfl ?_
    refine g_aload_n dX8_goOn_13 rfl rfl ?_
    refine g_getR (r' := (k0 + 1)) flX8_14 hk0.1 hk0.2.1 (by decide) hk0.2.2.1 dX8_goOn_14 ?_
    refine g_iload_n dX8_goOn_17 rfl rfl ?_
    obtain ⟨p3, h⟩ := h
    refine g_invVI (as := [.inl x2]) (rest := [.inl x2, .inr k0]) okX7_get mlX8_24 hk0.2.2.2.2.1 hk0.2.2.2.2.2.2.1 ⟨_, _, rfl⟩ rfl ⟨Nat.le_of_ble_eq_true rfl, Nat.le_of_ble_eq_true rfl⟩ (Nat.le_of_ble_eq_true rfl) rfl dX8_goOn_18 (c_X7_get hk0.2.2.2.2 c1 p3) (Or.inl rfl) (fun v4 σ5 e6 => ?_)
    obtain ⟨e6a, e6b⟩ := e6; subst v4; subst σ5
    refine g_iload_n dX8_goOn_21 rfl rfl ?_
    refine g_invVI (as := [.inl x2, .inl (σ (k0 + 2) (x2).toNat), .inl x1]) (rest := []) okX8_seatBehind mlX8_32 hk0.1 hk0.2.1 ⟨_, _, rfl⟩ rfl ⟨Nat.le_of_ble_eq_true rfl, Nat.le_of_ble_eq_true rfl⟩ (Nat.le_of_ble_eq_true rfl) rfl dX8_goOn_22 h (Or.inr rfl) (fun v7 σ8 e9 => ?_)
    have h := e9
    refine g_if_ne (tgt := 34) dX8_goOn_25 (by decide) (fun c10 => ?_) (fun c10 => ?_)
    · have h := h.1 c10
      refine g_iload_n dX8_goOn_34 rfl rfl ?_
      refine g_iconst dX8_goOn_35 (by decide) ?_
      obtain ⟨p11, h⟩ := h
      refine g_iadd dX8_goOn_36 p11 ?_
      refine g_istore_n (ls' := [some (.inr k0), some (.inl x1), some (.inl x2), some (.inl (x2 + 1))]) dX8_goOn_37 rfl (by decide) rfl ?_
      exact h
    · have h := h.2 c10
      obtain ⟨p12, h⟩ := h
      refine g_iinc (ls' := [some (.inr k0), some (.inl x1), some (.inl (x2 + (-1))), none]) dX8_goOn_28 (by decide) rfl p12 rfl ?_
      refine g_goto (tgt := 7) dX8_goOn_31 (by decide) ?_
      exact h
set_option maxRecDepth 100000 in
theorem rX8_goOn_38 {x1 x2 x3 : Int} {k0 : Nat} (hk0 : isSeats k0) {σ : Mem} {Q : Int → Mem → Prop} (h : (x2 < 0 → (x2 < 0 → Q 0 σ) ∧ (0 ≤ x2 → Q 1 σ)) ∧ (0 ≤ x2 → ((σ k0 1) ≤ x3 → (x2 < 0 → Q 0 σ) ∧ (0 ≤ x2 → Q 1 σ)) ∧ (x3 < (σ k0 1) → CM mX8_seatBehind [.inr k0, .inl x3, .inl (-1), .inl x1] σ (fun v5 σ6 => ((inR (x3 + 1)) ∧ (GO none mX8_goOn 38 [some (.inr k0), some (.inl x1), some (.inl x2), some (.inl (x3 + 1))] [] σ6 Q)))))) : GO none mX8_goOn 38 [some (.inr k0), some (.inl x1), some (.inl x2), some (.inl x3)] [] σ Q := by
  refine g_iload_n dX8_goOn_38 rfl rfl ?_
  refine g_if_lt (tgt := 64) dX8_goOn_39 (by decide) (fun c1 => ?_) (fun c1 => ?_)
  · have h := h.1 c1
    refine g_iload_n dX8_goOn_64 rfl rfl ?_
    refine g_if_lt (tgt := 72) dX8_goOn_65 (by decide) (fun c2 => ?_) (fun c2 => ?_)
    · have h := h.1 c2
      refine g_iconst dX8_goOn_72 (by decide) ?_
      exact g_zreturn rfl dX8_goOn_73 (by decide) h
    · have h := h.2 c2
      refine g_iconst dX8_goOn_68 (by decide) ?_
      refine g_goto (tgt := 73) dX8_goOn_69 (by decide) ?_
      exact g_zreturn rfl dX8_goOn_73 (by decide) h
  · have h := h.2 c1
    refine g_iload_n dX8_goOn_42 rfl rfl ?_
    refine g_aload_n dX8_goOn_43 rfl rfl ?_
    refine g_getI flX8_20 hk0.1 hk0.2.1 (by decide) hk0.2.2.2.1 dX8_goOn_44 ?_
    refine g_icmp_ge (tgt := 64) dX8_goOn_47 (by decide) (fun c3 => ?_) (fun c3 => ?_)
    · have h := h.1 c3
      refine g_iload_n dX8_goOn_64 rfl rfl ?_
      refine g_if_lt (tgt := 72) dX8_goOn_65 (by decide) (fun c4 => ?_) (fun c4 => ?_)
      · have h := h.1 c4
        refine g_iconst dX8_goOn_72 (by decide) ?_
        exact g_zreturn rfl dX8_goOn_73 (by decide) h
      · have h := h.2 c4
        refine g_iconst dX8_goOn_68 (by decide) ?_
        refine g_goto (tgt := 73) dX8_goOn_69 (by decide) ?_
        exact g_zreturn rfl dX8_goOn_73 (by decide) h
    · have h := h.2 c3
      refine g_aload_n dX8_goOn_50 rfl rfl ?_
      refine g_iload_n dX8_goOn_51 rfl rfl ?_
      refine g_iconst dX8_goOn_52 (by decide) ?_
      refine g_iload_n dX8_goOn_53 rfl rfl ?_
      refine g_invVI (as := [.inl x3, .inl (-1), .inl x1]) (rest := []) okX8_seatBehind mlX8_32 hk0.1 hk0.2.1 ⟨_, _, rfl⟩ rfl ⟨Nat.le_of_ble_eq_true rfl, Nat.le_of_ble_eq_true rfl⟩ (Nat.le_of_ble_eq_true rfl) rfl dX8_goOn_54 h (Or.inr rfl) (fun v5 σ6 e7 => ?_)
      have h := e7
      refine g_pop dX8_goOn_57 ?_
      obtain ⟨p8, h⟩ := h
      refine g_iinc (ls' := [some (.inr k0), some (.inl x1), some (.inl x2), some (.inl (x3 + 1))]) dX8_goOn_58 (by decide) rfl p8 rfl ?_
      refine g_goto (tgt := 38) dX8_goOn_61 (by decide) ?_
      exact h
theorem c_X8_goOn {k : Nat} {p : List Nat} {n : Nat} {x1 : Int} {σ : Mem} (hk : isSeats k) (hp : hld σ (k + 2) p) (hc : σ k 1 = p.length) (h5 : p.length ≤ 5) (hpn : p.length ≤ n) (hn : n ≤ 6) (hs : ∀ s ∈ p, s < n) (e1 : x1 = n) : CM mX8_goOn [.inr k, .inl x1] σ (fun v σ1 => match nxt n p with
    | none => v = 0 ∧ σ1 = σ
    | some q => v = 1 ∧ hld σ1 (k + 2) q ∧ Same [k + 2] σ σ1) := by
  subst e1
  -- behind the turn
  have tail : ∀ (d : Nat) (t : Nat) (q : List Nat) (σ0 : Mem), q.length + d = p.length → t < p.length → σ0 k 1 = p.length → hld σ0 (k + 2) q → Same [k + 2] σ σ0 → GO none mX8_goOn 38 [some (.inr k), some (.inl (n : Int)), some (.inl (t : Int)), some (.inl (q.length : Int))] [] σ0 (fun v σ1 => v = 1 ∧ hld σ1 (k + 2) (fillF n d q) ∧ Same [k + 2] σ σ1) := by
    intro d
    induction d with
    | zero =>
      intro t q σ0 hd ht h1 h2 h3
      exact rX8_goOn_38 hk ⟨fun h => by omega, fun h => ⟨fun h' => ⟨fun _ => by omega, fun _ => ⟨rfl, h2, h3⟩⟩, fun h' => by omega⟩⟩
    | succ d ih =>
      intro t q σ0 hd ht h1 h2 h3
      obtain ⟨r, hr⟩ := nf_free (n := n) (pre := q) (by omega)
      refine rX8_goOn_38 hk ⟨fun h => by omega, fun h => ⟨fun h' => by omega, fun h' => ?_⟩⟩
      refine CM.mono (fun v σ1 hq => ?_) (c_X8_seatBehind (lo := 0) hk h2 (by omega) (by omega) hn rfl rfl rfl)
      unfold sbR at hq
      rw [hr] at hq
      obtain ⟨-, rfl⟩ := hq
      refine ⟨by omega, ?_⟩
      have := ih t (q ++ [r]) (mu σ0 (k + 2) q.length r) (by rw [List.length_append, List.length_singleton]; omega) ht (by rw [mu_ne k (by omega)]; exact h1) (h2.snoc r) (h3.tr (Same.mu (by simp)))
      rw [List.length_append, List.length_singleton] at this
      unfold fillF
      rw [hr]
      exact this
  have key : ∀ (t : Nat), t ≤ p.length → GO none mX8_goOn 7 [some (.inr k), some (.inl (n : Int)), some (.inl ((t : Int) - 1)), none] [] σ (fun v σ1 => match nxtA n t p with
    | none => v = 0 ∧ σ1 = σ
    | some q => v = 1 ∧ hld σ1 (k + 2) q ∧ Same [k + 2] σ σ1) := by
    intro t
    induction t with
    | zero =>
      intro _
      refine rX8_goOn_7 hk ⟨fun h => ⟨by omega, ?_⟩, fun h => by omega⟩
      exact rX8_goOn_38 hk ⟨fun h => ⟨fun _ => ⟨rfl, rfl⟩, fun h' => by omega⟩, fun h => by omega⟩
    | succ t ih =>
      intro ht
      refine rX8_goOn_7 hk ⟨fun h => by omega, fun h => ⟨by omega, ?_⟩⟩
      have et : (((t + 1 : Nat) : Int) - 1) = (t : Int) := by omega
      have hsl : (p.take t).length = t := by rw [List.length_take]; omega
      have hpt : σ (k + 2) t = ((p.getD t 0 : Nat) : Int) := by
        rw [hp t (by omega)]
        simp [List.getD, show t < p.length by omega]
      have hlt : p.getD t 0 < n := by
        have : p.getD t 0 ∈ p := by
          have e : p.getD t 0 = p[t] := by simp [List.getD, show t < p.length by omega]
          rw [e]
          exact List.getElem_mem _
        exact hs _ this
      rw [et, Int.toNat_natCast]
      refine CM.mono (fun v σ1 hq => ?_) (c_X8_seatBehind (pre := p.take t) (lo := p.getD t 0 + 1) (n := n) hk (hp.take t) (by omega) (by omega) hn (by rw [hsl]) (by rw [hpt]; omega) rfl)
      unfold sbR at hq
      cases hr : nf n (p.take t) (p.getD t 0 + 1) with
      | none =>
        rw [hr] at hq
        obtain ⟨rfl, rfl⟩ := hq
        refine ⟨fun h' => by omega, fun _ => ⟨by omega, ?_⟩⟩
        have := ih (by omega)
        unfold nxtA
        rw [hr]
        exact this
      | some s =>
        rw [hr] at hq
        obtain ⟨rfl, rfl⟩ := hq
        refine ⟨fun _ => ⟨by omega, ?_⟩, fun h' => by omega⟩
        have h6 := (hp.take t).snoc s
        have := tail (p.length - (t + 1)) t (p.take t ++ [s]) (mu σ (k + 2) (p.take t).length s) (by rw [List.length_append, List.length_singleton, hsl]; omega) (by omega) (by rw [mu_ne k (by omega)]; exact hc) h6 (Same.mu (by simp))
        rw [List.length_append, List.length_singleton, hsl] at this
        unfold nxtA
        rw [hr, hsl]
        exact this
  refine rX8_goOn_0 hk ⟨by omega, ?_⟩
  rw [hc]
  exact key p.length (Nat.le_refl _)
