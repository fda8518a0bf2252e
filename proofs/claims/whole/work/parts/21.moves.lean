/-! ===== the planner: what the moves cost, one shop after the other ===== -/
def HG : Int := 268435456
/-- the least of the first k values, and of HG -/
def mnF (f : Nat → Int) : Nat → Int
  | 0 => 268435456
  | k + 1 => if mnF f k ≤ f k then mnF f k else f k
theorem mnF_le (f : Nat → Int) : ∀ k, mnF f k ≤ 268435456 ∧ ∀ j, j < k → mnF f k ≤ f j
  | 0 => ⟨Int.le_refl _, fun j h => by omega⟩
  | k + 1 => by
    have ih := mnF_le f k
    unfold mnF
    split
    · refine ⟨ih.1, fun j h => ?_⟩
      by_cases e : j = k
      · subst e; assumption
      · exact ih.2 j (by omega)
    · refine ⟨by omega, fun j h => ?_⟩
      by_cases e : j = k
      · subst e; exact Int.le_refl _
      · have := ih.2 j (by omega); omega
theorem mnF_at (f : Nat → Int) : ∀ k, mnF f k = 268435456 ∨ ∃ j, j < k ∧ mnF f k = f j
  | 0 => Or.inl rfl
  | k + 1 => by
    unfold mnF
    split
    · rcases mnF_at f k with h | ⟨j, h1, h2⟩
      · exact Or.inl h
      · exact Or.inr ⟨j, by omega, h2⟩
    · exact Or.inr ⟨k, by omega, rfl⟩
theorem mnF_cong {f g : Nat → Int} : ∀ {k : Nat}, (∀ j, j < k → f j = g j) → mnF f k = mnF g k
  | 0, _ => rfl
  | k + 1, h => by
    unfold mnF
    rw [mnF_cong (fun j hj => h j (by omega)), h k (by omega)]
def mn2 (a b : Int) : Int := if a ≤ b then a else b
set_option maxRecDepth 100000 in
theorem rX6_toldEnd_0  {σ : Mem} {Q : Int → Mem → Prop} (h : GO none mX6_toldEnd 4 [some (.inr 51), some (.inl 1), some (.inl 0)] [] σ Q) : CM mX6_toldEnd [.inr 51] σ Q := by
  refine CM_of_GO (by decide +kernel) rfl (Nat.le_of_ble_eq_true rfl) ?_
  show GO none mX6_toldEnd 0 [some (.inr 51), none, none] [] σ Q
  refine g_iconst dX6_toldEnd_0 (by decide) ?_
  refine g_istore_n (ls' := [some (.inr 51), some (.inl 1), none]) dX6_toldEnd_1 rfl (by decide) rfl ?_
  refine g_iconst dX6_toldEnd_2 (by decide) ?_
  refine g_istore_n (ls' := [some (.inr 51), some (.inl 1), some (.inl 0)]) dX6_toldEnd_3 rfl (by decide) rfl ?_
  exact h
set_option maxRecDepth 100000 in
theorem rX6_toldEnd_4 {x1 x2 : Int}  {σ : Mem} {Q : Int → Mem → Prop} (h : ((σ 14 6) ≤ x2 → Q x1 σ) ∧ (x2 < (σ 14 6) → ((inR (x1 * 6)) ∧ (((inR (x2 + 1)) ∧ (GO none mX6_toldEnd 4 [some (.inr 51), some (.inl (x1 * 6)), some (.inl (x2 + 1))] [] σ Q)))))) : GO none mX6_toldEnd 4 [some (.inr 51), some (.inl x1), some (.inl x2)] [] σ Q := by
  refine g_iload_n dX6_toldEnd_4 rfl rfl ?_
  refine g_aload_n dX6_toldEnd_5 rfl rfl ?_
  refine g_getR (r' := 14) flX6_50 (by decide) rfl (by decide) rfl dX6_toldEnd_6 ?_
  refine g_invVI (as := []) (rest := [.inl x2]) okX9_shops mlX6_75 (by decide) rfl ⟨_, _, rfl⟩ rfl ⟨Nat.le_of_ble_eq_true rfl, Nat.le_of_ble_eq_true rfl⟩ (Nat.le_of_ble_eq_true rfl) rfl dX6_toldEnd_9 (c_X9_shops) (Or.inl rfl) (fun v1 σ2 e3 => ?_)
  obtain ⟨e3a, e3b⟩ := e3; subst v1; subst σ2
  refine g_icmp_ge (tgt := 26) dX6_toldEnd_12 (by decide) (fun c4 => ?_) (fun c4 => ?_)
  · have h := h.1 c4
    refine g_iload_n dX6_toldEnd_26 rfl rfl ?_
    exact g_ireturn rfl dX6_toldEnd_27 h
  · have h := h.2 c4
    refine g_iload_n dX6_toldEnd_15 rfl rfl ?_
    refine g_bipush dX6_toldEnd_16 (by decide) (by decide) ?_
    obtain ⟨p5, h⟩ := h
    refine g_imul dX6_toldEnd_18 p5 ?_
    refine g_istore_n (ls' := [some (.inr 51), some (.inl (x1 * 6)), some (.inl x2)]) dX6_toldEnd_19 rfl (by decide) rfl ?_
    obtain ⟨p6, h⟩ := h
    refine g_iinc (ls' := [some (.inr 51), some (.inl (x1 * 6)), some (.inl (x2 + 1))]) dX6_toldEnd_20 (by decide) rfl p6 rfl ?_
    refine g_goto (tgt := 4) dX6_toldEnd_23 (by decide) ?_
    exact h
theorem c_X6_toldEnd {m : Nat} {σ : Mem} (hm : σ 14 6 = m) (h5 : m ≤ 5) : CM mX6_toldEnd [.inr 51] σ (fun v σ1 => v = ((6 ^ m : Nat) : Int) ∧ σ1 = σ) := by
  have key : ∀ (d i : Nat), i + d = m → GO none mX6_toldEnd 4 [some (.inr 51), some (.inl ((6 ^ i : Nat) : Int)), some (.inl (i : Int))] [] σ (fun v σ1 => v = ((6 ^ m : Nat) : Int) ∧ σ1 = σ) := by
    intro d
    induction d with
    | zero =>
      intro i hd
      exact rX6_toldEnd_4 ⟨fun _ => ⟨by rw [show i = m by omega], rfl⟩, fun h => by omega⟩
    | succ d ih =>
      intro i hd
      have hp := pow6_le (m := i) (by omega)
      have := ih (i + 1) (by omega)
      rw [Nat.pow_succ] at this
      generalize 6 ^ i = P at this hp ⊢
      rw [show ((P * 6 : Nat) : Int) = (P : Int) * 6 by omega] at this
      exact rX6_toldEnd_4 ⟨fun h => by omega, fun _ => ⟨by omega, by omega, this⟩⟩
  exact rX6_toldEnd_0 (key m 0 (by omega))
set_option maxRecDepth 100000 in
theorem rX6_letMove_0 {x1 x2 x3 : Int}  {σ : Mem} {Q : Int → Mem → Prop} (h : GO none mX6_letMove 7 [some (.inr 51), some (.inl x1), some (.inl x2), some (.inl x3), some (.inl 268435456), some (.inl 0), none] [] σ Q) : CM mX6_letMove [.inr 51, .inl x1, .inl x2, .inl x3] σ Q := by
  refine CM_of_GO (by decide +kernel) rfl (Nat.le_of_ble_eq_true rfl) ?_
  show GO none mX6_letMove 0 [some (.inr 51), some (.inl x1), some (.inl x2), some (.inl x3), none, none, none] [] σ Q
  refine g_ldc (n := 268435456) dX6_letMove_0 kcX6_99 (by decide) (by decide) ?_
  refine g_istore (ls' := [some (.inr 51), some (.inl x1), some (.inl x2), some (.inl x3), some (.inl 268435456), none, none]) dX6_letMove_2 (by decide) rfl ?_
  refine g_iconst dX6_letMove_4 (by decide) ?_
  refine g_istore (ls' := [some (.inr 51), some (.inl x1), some (.inl x2), some (.inl x3), some (.inl 268435456), some (.inl 0), none]) dX6_letMove_5 (by decide) rfl ?_
  exact h
set_option maxRecDepth 100000 in
theorem rX6_letMove_7 {x1 x2 x3 x4 x5 : Int}  {σ : Mem} {Q : Int → Mem → Prop} (h : (6 ≤ x5 → GO none mX6_letMove 43 [some (.inr 51), some (.inl x1), some (.inl x2), some (.inl x3), some (.inl x4), some (.inl 0), none] [] σ Q) ∧ (x5 < 6 → ((inR (x5 * x2)) ∧ (((inR (x1 + (x5 * x2))) ∧ (((0 ≤ (x1 + (x5 * x2))) ∧ ((((x1 + (x5 * x2)) < 7776) ∧ (((inR (x5 + 1)) ∧ (GO none mX6_letMove 7 [some (.inr 51), some (.inl x1), some (.inl x2), some (.inl x3), some (.inl (if x4 ≤ (σ 64 ((x1 + (x5 * x2))).toNat) then x4 else (σ 64 ((x1 + (x5 * x2))).toNat))), some (.inl (x5 + 1)), none] [] σ Q)))))))))))) : GO none mX6_letMove 7 [some (.inr 51), some (.inl x1), some (.inl x2), some (.inl x3), some (.inl x4), some (.inl x5), none] [] σ Q := by
  refine g_iload dX6_letMove_7 rfl ?_
  refine g_bipush dX6_letMove_9 (by decide) (by decide) ?_
  refine g_icmp_ge (tgt := 40) dX6_letMove_11 (by decide) (fun c1 => ?_) (fun c1 => ?_)
  · have h := h.1 c1
    refine g_iconst dX6_letMove_40 (by decide) ?_
    refine g_istore (ls' := [some (.inr 51), some (.inl x1), some (.inl x2), some (.inl x3), some (.inl x4), some (.inl 0), none]) dX6_letMove_41 (by decide) rfl ?_
    exact h
  · have h := h.2 c1
    refine g_iload dX6_letMove_14 rfl ?_
    refine g_aload_n dX6_letMove_16 rfl rfl ?_
    refine g_getR (r' := 63) flX6_33 (by decide) rfl (by decide) rfl dX6_letMove_17 ?_
    refine g_iload_n dX6_letMove_20 rfl rfl ?_
    refine g_iload dX6_letMove_21 rfl ?_
    refine g_iload_n dX6_letMove_23 rfl rfl ?_
    obtain ⟨p2, h⟩ := h
    refine g_imul dX6_letMove_24 p2 ?_
    obtain ⟨p3, h⟩ := h
    refine g_iadd dX6_letMove_25 p3 ?_
    obtain ⟨p4, h⟩ := h
    obtain ⟨p5, h⟩ := h
    refine g_invVI (as := [.inl (x1 + (x5 * x2))]) (rest := [.inl x4]) okX7_get mlX6_58 (by decide) rfl ⟨_, _, rfl⟩ rfl ⟨Nat.le_of_ble_eq_true rfl, Nat.le_of_ble_eq_true rfl⟩ (Nat.le_of_ble_eq_true rfl) rfl dX6_letMove_26 (c_X7_get ⟨by decide, by decide, rfl, rfl, rfl⟩ p4 p5) (Or.inl rfl) (fun v6 σ7 e8 => ?_)
    obtain ⟨e8a, e8b⟩ := e8; subst v6; subst σ7
    refine g_min mlX6_100 min_s min_i min_c (by decide) (Nat.le_of_ble_eq_true rfl) dX6_letMove_29 ?_
    refine g_istore (ls' := [some (.inr 51), some (.inl x1), some (.inl x2), some (.inl x3), some (.inl (if x4 ≤ (σ 64 ((x1 + (x5 * x2))).toNat) then x4 else (σ 64 ((x1 + (x5 * x2))).toNat))), some (.inl x5), none]) dX6_letMove_32 (by decide) rfl ?_
    obtain ⟨p9, h⟩ := h
    refine g_iinc (ls' := [some (.inr 51), some (.inl x1), some (.inl x2), some (.inl x3), some (.inl (if x4 ≤ (σ 64 ((x1 + (x5 * x2))).toNat) then x4 else (σ 64 ((x1 + (x5 * x2))).toNat))), some (.inl (x5 + 1)), none]) dX6_letMove_34 (by decide) rfl p9 rfl ?_
    refine g_goto (tgt := 7) dX6_letMove_37 (by decide) ?_
    exact h
set_option maxRecDepth 100000 in
theorem rX6_letMove_43 {x1 x2 x3 x4 x5 : Int}  {σ : Mem} {Q : Int → Mem → Prop} (h : (6 ≤ x5 → Q 0 σ) ∧ (x5 < 6 → ((inR (x5 * x2)) ∧ (((inR (x1 + (x5 * x2))) ∧ (((0 ≤ (x1 + (x5 * x2))) ∧ ((((x1 + (x5 * x2)) < 7776) ∧ (((inR (x4 + x3)) ∧ (((inR (x5 + 1)) ∧ (GO none mX6_letMove 43 [some (.inr 51), some (.inl x1), some (.inl x2), some (.inl x3), some (.inl x4), some (.inl (x5 + 1)), none] [] (mu σ 64 ((x1 + (x5 * x2))).toNat (if (σ 64 ((x1 + (x5 * x2))).toNat) ≤ (x4 + x3) then (σ 64 ((x1 + (x5 * x2))).toNat) else (x4 + x3))) Q)))))))))))))) : GO none mX6_letMove 43 [some (.inr 51), some (.inl x1), some (.inl x2), some (.inl x3), some (.inl x4), some (.inl x5), none] [] σ Q := by
  refine g_iload dX6_letMove_43 rfl ?_
  refine g_bipush dX6_letMove_45 (by decide) (by decide) ?_
  refine g_icmp_ge (tgt := 89) dX6_letMove_47 (by decide) (fun c1 => ?_) (fun c1 => ?_)
  · have h := h.1 c1
    exact g_return rfl dX6_letMove_89 h
  · have h := h.2 c1
    refine g_iload_n dX6_letMove_50 rfl rfl ?_
    refine g_iload dX6_letMove_51 rfl ?_
    refine g_iload_n dX6_letMove_53 rfl rfl ?_
    obtain ⟨p2, h⟩ := h
    refine g_imul dX6_letMove_54 p2 ?_
    obtain ⟨p3, h⟩ := h
    refine g_iadd dX6_letMove_55 p3 ?_
    refine g_istore (ls' := [some (.inr 51), some (.inl x1), some (.inl x2), some (.inl x3), some (.inl x4), some (.inl x5), some (.inl (x1 + (x5 * x2)))]) dX6_letMove_56 (by decide) rfl ?_
    refine g_aload_n dX6_letMove_58 rfl rfl ?_
    refine g_getR (r' := 63) flX6_33 (by decide) rfl (by decide) rfl dX6_letMove_59 ?_
    refine g_iload dX6_letMove_62 rfl ?_
    refine g_aload_n dX6_letMove_64 rfl rfl ?_
    refine g_getR (r' := 63) flX6_33 (by decide) rfl (by decide) rfl dX6_letMove_65 ?_
    refine g_iload dX6_letMove_68 rfl ?_
    obtain ⟨p4, h⟩ := h
    obtain ⟨p5, h⟩ := h
    refine g_invVI (as := [.inl (x1 + (x5 * x2))]) (rest := [.inl (x1 + (x5 * x2)), .inr 63]) okX7_get mlX6_58 (by decide) rfl ⟨_, _, rfl⟩ rfl ⟨Nat.le_of_ble_eq_true rfl, Nat.le_of_ble_eq_true rfl⟩ (Nat.le_of_ble_eq_true rfl) rfl dX6_letMove_70 (c_X7_get ⟨by decide, by decide, rfl, rfl, rfl⟩ p4 p5) (Or.inl rfl) (fun v6 σ7 e8 => ?_)
    obtain ⟨e8a, e8b⟩ := e8; subst v6; subst σ7
    refine g_iload dX6_letMove_73 rfl ?_
    refine g_iload_n dX6_letMove_75 rfl rfl ?_
    obtain ⟨p9, h⟩ := h
    refine g_iadd dX6_letMove_76 p9 ?_
    refine g_min mlX6_100 min_s min_i min_c (by decide) (Nat.le_of_ble_eq_true rfl) dX6_letMove_77 ?_
    refine g_invVV (as := [.inl (x1 + (x5 * x2)), .inl (if (σ 64 ((x1 + (x5 * x2))).toNat) ≤ (x4 + x3) then (σ 64 ((x1 + (x5 * x2))).toNat) else (x4 + x3))]) (rest := []) okX7_set mlX6_106 (by decide) rfl ⟨_, _, rfl⟩ rfl ⟨Nat.le_of_ble_eq_true rfl, Nat.le_of_ble_eq_true rfl⟩ (Nat.le_of_ble_eq_true rfl) rfl dX6_letMove_80 (c_X7_set ⟨by decide, by decide, rfl, rfl, rfl⟩ p4 p5) rfl (fun σ11 e12 => ?_)
    subst σ11
    obtain ⟨p13, h⟩ := h
    refine g_iinc (ls' := [some (.inr 51), some (.inl x1), some (.inl x2), some (.inl x3), some (.inl x4), some (.inl (x5 + 1)), some (.inl (x1 + (x5 * x2)))]) dX6_letMove_83 (by decide) rfl p13 rfl ?_
    refine g_goto (tgt := 43) dX6_letMove_86 (by decide) ?_
    refine g_kill (i := 6) (ls' := [some (.inr 51), some (.inl x1), some (.inl x2), some (.inl x3), some (.inl x4), some (.inl (x5 + 1)), none]) rfl ?_
    exact h
def lmF (f : Nat → Int) (a S : Nat) (w : Int) : Nat → Nat → Int
  | 0 => f
  | k + 1 => fup (lmF f a S w k) (a + k * S) (mn2 (f (a + k * S)) (mnF (fun s => f (a + s * S)) 6 + w))
theorem lmF_out {f : Nat → Int} {a S : Nat} {w : Int} : ∀ {k t : Nat}, (∀ s, s < k → t ≠ a + s * S) → lmF f a S w k t = f t
  | 0, t, _ => rfl
  | k + 1, t, h => by
    unfold lmF fup
    rw [if_neg (h k (by omega))]
    exact lmF_out (fun s hs => h s (by omega))
theorem lmF_in {f : Nat → Int} {a S : Nat} {w : Int} (hS : 0 < S) : ∀ {k s : Nat}, s < k → lmF f a S w k (a + s * S) = mn2 (f (a + s * S)) (mnF (fun s => f (a + s * S)) 6 + w)
  | 0, s, h => by omega
  | k + 1, s, h => by
    unfold lmF fup
    by_cases e : s = k
    · subst e; rw [if_pos rfl]
    · have : a + s * S ≠ a + k * S := fun q => e (Nat.eq_of_mul_eq_mul_right hS (by omega))
      rw [if_neg this]
      exact lmF_in hS (by omega)
theorem c_X6_letMove {a S : Nat} {w x1 x2 : Int} {σ : Mem} (hS : 0 < S) (hb : a + 5 * S < 7776) (hf : ∀ t, t < 7776 → 0 ≤ σ 64 t ∧ σ 64 t ≤ 268435456) (hw : 0 ≤ w ∧ w ≤ 50) (e1 : x1 = a) (e2 : x2 = S) : CM mX6_letMove [.inr 51, .inl x1, .inl x2, .inl w] σ (fun _ σ1 => σ1 = setA σ 64 (lmF (σ 64) a S w 6)) := by
  subst e1 e2
  have hin : ∀ s, s < 6 → a + s * S < 7776 ∧ (s : Int) * (S : Int) = ((s * S : Nat) : Int) := fun s hs => by
    have : s * S ≤ 5 * S := Nat.mul_le_mul_right S (by omega)
    exact ⟨by omega, by rw [Int.natCast_mul]⟩
  have ml := mnF_le (fun s => σ 64 (a + s * S)) 6
  have m0 : 0 ≤ mnF (fun s => σ 64 (a + s * S)) 6 := by
    rcases mnF_at (fun s => σ 64 (a + s * S)) 6 with h | ⟨j, h1, h2⟩
    · omega
    · rw [h2]; exact (hf _ (hin j h1).1).1
  have second : ∀ (d k : Nat), k + d = 6 → GO none mX6_letMove 43 [some (.inr 51), some (.inl (a : Int)), some (.inl (S : Int)), some (.inl w), some (.inl (mnF (fun s => σ 64 (a + s * S)) 6)), some (.inl (k : Int)), none] [] (setA σ 64 (lmF (σ 64) a S w k)) (fun _ σ1 => σ1 = setA σ 64 (lmF (σ 64) a S w 6)) := by
    intro d
    induction d with
    | zero =>
      intro k hd
      exact rX6_letMove_43 ⟨fun _ => by rw [show k = 6 by omega], fun h => by omega⟩
    | succ d ih =>
      intro k hd
      have h1 := hin k (by omega)
      have e : lmF (σ 64) a S w k (a + k * S) = σ 64 (a + k * S) := lmF_out (fun s hs q => by
        have := Nat.mul_lt_mul_of_pos_right hs hS
        omega)
      refine rX6_letMove_43 ⟨fun h => by omega, fun _ => ?_⟩
      rw [h1.2, show ((a : Int) + ((k * S : Nat) : Int)).toNat = a + k * S by omega, setA_eq, e]
      refine ⟨by omega, by omega, by omega, by omega, by omega, by omega, ?_⟩
      have := ih (k + 1) (by omega)
      have e3 : mu (setA σ 64 (lmF (σ 64) a S w k)) 64 (a + k * S) (if σ 64 (a + k * S) ≤ mnF (fun s => σ 64 (a + s * S)) 6 + w then σ 64 (a + k * S) else mnF (fun s => σ 64 (a + s * S)) 6 + w) = setA σ 64 (lmF (σ 64) a S w (k + 1)) := by
        rw [mu_setA, setA_eq, setA_twice]
        rfl
      rw [e3]
      exact this
  have first : ∀ (d k : Nat), k + d = 6 → GO none mX6_letMove 7 [some (.inr 51), some (.inl (a : Int)), some (.inl (S : Int)), some (.inl w), some (.inl (mnF (fun s => σ 64 (a + s * S)) k)), some (.inl (k : Int)), none] [] σ (fun _ σ1 => σ1 = setA σ 64 (lmF (σ 64) a S w 6)) := by
    intro d
    induction d with
    | zero =>
      intro k hd
      refine rX6_letMove_7 ⟨fun _ => ?_, fun h => by omega⟩
      have := second 6 0 rfl
      rw [show lmF (σ 64) a S w 0 = σ 64 from rfl, setA_self] at this
      rw [show k = 6 by omega]
      exact this
    | succ d ih =>
      intro k hd
      have h1 := hin k (by omega)
      refine rX6_letMove_7 ⟨fun h => by omega, fun _ => ?_⟩
      rw [h1.2, show ((a : Int) + ((k * S : Nat) : Int)).toNat = a + k * S by omega]
      exact ⟨by omega, by omega, by omega, by omega, by omega, ih (k + 1) (by omega)⟩
  exact rX6_letMove_0 (first 6 0 rfl)
/-- one shop moves: its digit's stride S -/
def psF (f : Nat → Int) (S : Nat) (w : Int) (t : Nat) : Int := mn2 (f t) (mnF (fun s => f (t / (6 * S) * (6 * S) + t % S + s * S)) 6 + w)
theorem str_cases {i : Nat} (h : i < 5) {P : Nat → Prop} (h0 : P 1) (h1 : P 6) (h2 : P 36) (h3 : P 216) (h4 : P 1296) : P (6 ^ i) := by
  rcases (show i = 0 ∨ i = 1 ∨ i = 2 ∨ i = 3 ∨ i = 4 by omega) with rfl | rfl | rfl | rfl | rfl
  · exact h0
  · exact h1
  · exact h2
  · exact h3
  · exact h4
/-- a place's group, its place in it -/
theorem grp1 {i : Nat} (h : i < 5) : ∀ b l s, l < 6 ^ i → s < 6 → (b * 6 ^ i * 6 + l + s * 6 ^ i) / (6 * 6 ^ i) = b ∧ (b * 6 ^ i * 6 + l + s * 6 ^ i) % 6 ^ i = l := by
  refine str_cases (P := fun S => ∀ b l s, l < S → s < 6 → (b * S * 6 + l + s * S) / (6 * S) = b ∧ (b * S * 6 + l + s * S) % S = l) h ?_ ?_ ?_ ?_ ?_ <;> (intro b l s h1 h2; constructor <;> omega)
theorem grp2 {i : Nat} (h : i < 5) : ∀ t, ∃ s, s < 6 ∧ t = t / (6 * 6 ^ i) * 6 ^ i * 6 + t % 6 ^ i + s * 6 ^ i ∧ t % 6 ^ i < 6 ^ i := by
  refine str_cases (P := fun S => ∀ t, ∃ s, s < 6 ∧ t = t / (6 * S) * S * 6 + t % S + s * S ∧ t % S < S) h ?_ ?_ ?_ ?_ ?_ <;> intro t
  · exact ⟨t % 6, by omega, by omega, by omega⟩
  · exact ⟨t / 6 % 6, by omega, by omega, by omega⟩
  · exact ⟨t / 36 % 6, by omega, by omega, by omega⟩
  · exact ⟨t / 216 % 6, by omega, by omega, by omega⟩
  · exact ⟨t / 1296 % 6, by omega, by omega, by omega⟩
theorem grp3 (b S : Nat) : b * S * 6 = b * (6 * S) := by rw [Nat.mul_assoc, Nat.mul_comm S 6]
/-- the groups of stride 6^i done so far: the blocks before b, and of block b the first l -/
def dnF (f : Nat → Int) (i : Nat) (w : Int) (b l : Nat) : Nat → Int := fun t => if t / (6 * 6 ^ i) < b ∨ (t / (6 * 6 ^ i) = b ∧ t % 6 ^ i < l) then psF f (6 ^ i) w t else f t
theorem dnF_step {f : Nat → Int} {i b l : Nat} {w : Int} (hi : i < 5) (hl : l < 6 ^ i) : lmF (dnF f i w b l) (b * 6 ^ i * 6 + l) (6 ^ i) w 6 = dnF f i w b (l + 1) := by
  have hS : 0 < 6 ^ i := Nat.pow_pos (by decide)
  have old : ∀ s, s < 6 → dnF f i w b l (b * 6 ^ i * 6 + l + s * 6 ^ i) = f (b * 6 ^ i * 6 + l + s * 6 ^ i) := fun s hs => by
    have := grp1 hi b l s hl hs
    unfold dnF
    rw [if_neg (by rw [this.1, this.2]; omega)]
  funext t
  obtain ⟨s, hs, ht, hm⟩ := grp2 hi t
  by_cases e : t / (6 * 6 ^ i) = b ∧ t % 6 ^ i = l
  · have e2 : t = b * 6 ^ i * 6 + l + s * 6 ^ i := by rw [← e.1, ← e.2]; exact ht
    have e3 : lmF (dnF f i w b l) (b * 6 ^ i * 6 + l) (6 ^ i) w 6 t = mn2 (dnF f i w b l t) (mnF (fun s => dnF f i w b l (b * 6 ^ i * 6 + l + s * 6 ^ i)) 6 + w) := by
      rw [e2]
      exact lmF_in hS hs
    rw [e3]
    unfold dnF
    rw [if_neg (by rw [e.1, e.2]; omega), if_pos (by rw [e.1, e.2]; omega)]
    unfold psF
    rw [e.1, e.2, ← grp3]
    rw [mnF_cong (f := fun s => if (b * 6 ^ i * 6 + l + s * 6 ^ i) / (6 * 6 ^ i) < b ∨ (b * 6 ^ i * 6 + l + s * 6 ^ i) / (6 * 6 ^ i) = b ∧ (b * 6 ^ i * 6 + l + s * 6 ^ i) % 6 ^ i < l then mn2 (f (b * 6 ^ i * 6 + l + s * 6 ^ i)) (mnF (fun s_1 => f ((b * 6 ^ i * 6 + l + s * 6 ^ i) / (6 * 6 ^ i) * (6 * 6 ^ i) + (b * 6 ^ i * 6 + l + s * 6 ^ i) % 6 ^ i + s_1 * 6 ^ i)) 6 + w) else f (b * 6 ^ i * 6 + l + s * 6 ^ i)) (g := fun s => f (b * 6 ^ i * 6 + l + s * 6 ^ i)) (fun j hj => ?_)]
    have := grp1 hi b l j hl hj
    show (if _ then _ else _) = _
    rw [if_neg (by rw [this.1, this.2]; omega)]
  · have e3 : lmF (dnF f i w b l) (b * 6 ^ i * 6 + l) (6 ^ i) w 6 t = dnF f i w b l t := lmF_out (fun s2 hs2 q => e (by
      have := grp1 hi b l s2 hl hs2
      rw [← q] at this
      exact this))
    rw [e3]
    unfold dnF
    by_cases q : t / (6 * 6 ^ i) < b ∨ (t / (6 * 6 ^ i) = b ∧ t % 6 ^ i < l)
    · rw [if_pos q, if_pos (by omega)]
    · rw [if_neg q, if_neg (by omega)]
