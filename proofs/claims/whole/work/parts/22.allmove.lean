/-! ===== all shops move, one after the other ===== -/
/-- the numbers as they are told, of m digits -/
def dl (m : Nat) (p : List Nat) : Prop := p.length = m ∧ ∀ s ∈ p, s < 6
theorem tldN (p : List Nat) : ∃ t : Nat, tld p = (t : Int) := ⟨(tld p).toNat, by have := tld_nn p; omega⟩
def tn (p : List Nat) : Nat := (tld p).toNat
theorem tn_eq (p : List Nat) : tld p = (tn p : Int) := by have := tld_nn p; unfold tn; omega
theorem tn_cons (s : Nat) (p : List Nat) : tn (s :: p) = s + 6 * tn p := by
  have h1 := tn_eq (s :: p)
  have h2 := tn_eq p
  have h3 : tld (s :: p) = (s : Int) + 6 * tld p := rfl
  omega
theorem tn_lt {p : List Nat} (h : ∀ s ∈ p, s < 6) : tn p < 6 ^ p.length := by
  have h1 := tld_lt p h
  have h2 := tn_eq p
  generalize 6 ^ p.length = P at h1 ⊢
  omega
theorem tn_inj : ∀ {p q : List Nat}, (∀ s ∈ p, s < 6) → (∀ s ∈ q, s < 6) → p.length = q.length → tn p = tn q → p = q
  | [], [], _, _, _, _ => rfl
  | [], _ :: _, _, _, h, _ => by simp at h
  | _ :: _, [], _, _, h, _ => by simp at h
  | s :: p, t :: q, h1, h2, h3, h4 => by
    have a := List.forall_mem_cons.mp h1
    have b := List.forall_mem_cons.mp h2
    rw [tn_cons, tn_cons] at h4
    have e : s = t := by omega
    subst e
    rw [tn_inj a.2 b.2 (by simpa using h3) (by omega)]
/-- a digit's place -/
theorem tn_set : ∀ (p : List Nat) (i s : Nat), i < p.length → (∀ t ∈ p, t < 6) → s < 6 → tn (p.set i s) = tn p / (6 * 6 ^ i) * (6 * 6 ^ i) + tn p % 6 ^ i + s * 6 ^ i
  | [], i, s, h, _, _ => by simp at h
  | t :: p, 0, s, _, h, hs => by
    have a := List.forall_mem_cons.mp h
    rw [List.set_cons_zero, tn_cons, tn_cons, Nat.pow_zero, Nat.mod_one]
    omega
  | t :: p, i + 1, s, h, h1, hs => by
    have a := List.forall_mem_cons.mp h1
    have ih := tn_set p i s (by simpa using h) a.2 hs
    rw [List.set_cons_succ, tn_cons, tn_cons, ih, Nat.pow_succ]
    have e1 : (t + 6 * tn p) / (6 * (6 ^ i * 6)) = tn p / (6 * 6 ^ i) := by
      rw [show 6 * (6 ^ i * 6) = 6 * (6 * 6 ^ i) by rw [Nat.mul_comm (6 ^ i) 6], ← Nat.div_div_eq_div_mul, Nat.add_mul_div_left _ _ (by decide : 0 < 6), Nat.div_eq_of_lt a.1, Nat.zero_add]
    have e2 : (t + 6 * tn p) % (6 ^ i * 6) = t + 6 * (tn p % 6 ^ i) := by
      rw [Nat.mul_comm (6 ^ i) 6, Nat.mod_mul, Nat.add_mul_mod_self_left, Nat.mod_eq_of_lt a.1, Nat.add_mul_div_left _ _ (by decide : 0 < 6), Nat.div_eq_of_lt a.1, Nat.zero_add]
    rw [e1, e2]
    have e3 : 6 * (tn p / (6 * 6 ^ i) * (6 * 6 ^ i)) = tn p / (6 * 6 ^ i) * (6 * (6 ^ i * 6)) := by
      rw [Nat.mul_left_comm, Nat.mul_comm (6 ^ i) 6]
    have e4 : 6 * (s * 6 ^ i) = s * (6 ^ i * 6) := by rw [Nat.mul_left_comm, Nat.mul_comm 6 (6 ^ i)]
    rw [← e3, ← e4]
    omega
theorem psF_set {f : Nat → Int} {p : List Nat} {i : Nat} {w : Int} (hi : i < p.length) (hp : ∀ s ∈ p, s < 6) : psF f (6 ^ i) w (tn p) = mn2 (f (tn p)) (mnF (fun s => f (tn (p.set i s))) 6 + w) := by
  unfold psF
  congr 2
  refine mnF_cong (fun s hs => ?_)
  rw [tn_set p i s hi hp hs]
def alF (w : Nat → Int) (m : Nat) (f : Nat → Int) : Nat → Nat → Int
  | 0 => f
  | i + 1 => dnF (alF w m f i) i (w i) (6 ^ (m - 1 - i)) 0
theorem psF_bd {f : Nat → Int} {S t : Nat} {w : Int} (hw : 0 ≤ w) (h : ∀ t, t < 7776 → 0 ≤ f t ∧ f t ≤ 268435456) (ht : t < 7776) (hin : ∀ s, s < 6 → t / (6 * S) * (6 * S) + t % S + s * S < 7776) : 0 ≤ psF f S w t ∧ psF f S w t ≤ 268435456 := by
  have h1 := h t ht
  have h2 : 0 ≤ mnF (fun s => f (t / (6 * S) * (6 * S) + t % S + s * S)) 6 := by
    rcases mnF_at (fun s => f (t / (6 * S) * (6 * S) + t % S + s * S)) 6 with q | ⟨j, q1, q2⟩
    · omega
    · rw [q2]; exact (h _ (hin j q1)).1
  unfold psF mn2
  split <;> omega
theorem blk_lt {m i b l s : Nat} (hi : i < m) (hb : b < 6 ^ (m - 1 - i)) (hl : l < 6 ^ i) (hs : s < 6) : b * 6 ^ i * 6 + l + s * 6 ^ i < 6 ^ m := by
  have e : 6 ^ m = 6 ^ (m - 1 - i) * 6 ^ i * 6 := by
    rw [← Nat.pow_add, ← Nat.pow_succ]
    congr 1
    omega
  have h1 : (b + 1) * 6 ^ i ≤ 6 ^ (m - 1 - i) * 6 ^ i := Nat.mul_le_mul_right _ hb
  have h2 : s * 6 ^ i ≤ 5 * 6 ^ i := Nat.mul_le_mul_right _ (by omega)
  rw [Nat.succ_mul] at h1
  rw [e]
  generalize b * 6 ^ i = B at *
  generalize s * 6 ^ i = S at *
  generalize 6 ^ (m - 1 - i) * 6 ^ i = T at *
  generalize 6 ^ i = P at *
  omega
theorem dnF_bd {f : Nat → Int} {m i b l : Nat} {w : Int} (hm : m ≤ 5) (hi : i < m) (hw : 0 ≤ w) (hb : b ≤ 6 ^ (m - 1 - i)) (hl : l = 0 ∨ (b < 6 ^ (m - 1 - i) ∧ l ≤ 6 ^ i)) (h : ∀ t, t < 7776 → 0 ≤ f t ∧ f t ≤ 268435456) : ∀ t, t < 7776 → 0 ≤ dnF f i w b l t ∧ dnF f i w b l t ≤ 268435456 := by
  intro t ht
  unfold dnF
  split
  · rename_i hc
    refine psF_bd hw h ht (fun s hs => ?_)
    obtain ⟨s0, hs0, e0, hm0⟩ := grp2 (show i < 5 by omega) t
    have hb2 : t / (6 * 6 ^ i) < 6 ^ (m - 1 - i) := by omega
    have := blk_lt hi hb2 hm0 hs
    rw [grp3] at this
    have := pow6_le hm
    omega
  · exact h t ht
set_option maxRecDepth 100000 in
theorem rX6_letAllMove_0  {σ : Mem} {Q : Int → Mem → Prop} (h : CM mX6_toldEnd [.inr 51] σ (fun v1 σ2 => GO none mX6_letAllMove 12 [some (.inr 51), some (.inl 1), some (.inl (Int.tdiv v1 6)), some (.inl 0), none, none] [] σ2 Q)) : CM mX6_letAllMove [.inr 51] σ Q := by
  refine CM_of_GO (by decide +kernel) rfl (Nat.le_of_ble_eq_true rfl) ?_
  show GO none mX6_letAllMove 0 [some (.inr 51), none, none, none, none, none] [] σ Q
  refine g_iconst dX6_letAllMove_0 (by decide) ?_
  refine g_istore_n (ls' := [some (.inr 51), some (.inl 1), none, none, none, none]) dX6_letAllMove_1 rfl (by decide) rfl ?_
  refine g_aload_n dX6_letAllMove_2 rfl rfl ?_
  refine g_invVI (as := []) (rest := []) okX6_toldEnd mlX6_113 (by decide) rfl ⟨_, _, rfl⟩ rfl ⟨Nat.le_of_ble_eq_true rfl, Nat.le_of_ble_eq_true rfl⟩ (Nat.le_of_ble_eq_true rfl) rfl dX6_letAllMove_3 h (Or.inl rfl) (fun v1 σ2 e3 => ?_)
  have h := e3
  refine g_bipush dX6_letAllMove_6 (by decide) (by decide) ?_
  refine g_idiv dX6_letAllMove_8 (by decide) ?_
  refine g_istore_n (ls' := [some (.inr 51), some (.inl 1), some (.inl (Int.tdiv v1 6)), none, none, none]) dX6_letAllMove_9 rfl (by decide) rfl ?_
  refine g_iconst dX6_letAllMove_10 (by decide) ?_
  refine g_istore_n (ls' := [some (.inr 51), some (.inl 1), some (.inl (Int.tdiv v1 6)), some (.inl 0), none, none]) dX6_letAllMove_11 rfl (by decide) rfl ?_
  exact h
set_option maxRecDepth 100000 in
theorem rX6_letAllMove_12 {x1 x2 x3 : Int}  {σ : Mem} {Q : Int → Mem → Prop} (h : ((σ 14 6) ≤ x3 → Q 0 σ) ∧ (x3 < (σ 14 6) → GO none mX6_letAllMove 26 [some (.inr 51), some (.inl x1), some (.inl x2), some (.inl x3), some (.inl 0), none] [] σ Q)) : GO none mX6_letAllMove 12 [some (.inr 51), some (.inl x1), some (.inl x2), some (.inl x3), none, none] [] σ Q := by
  refine g_iload_n dX6_letAllMove_12 rfl rfl ?_
  refine g_aload_n dX6_letAllMove_13 rfl rfl ?_
  refine g_getR (r' := 14) flX6_50 (by decide) rfl (by decide) rfl dX6_letAllMove_14 ?_
  refine g_invVI (as := []) (rest := [.inl x3]) okX9_shops mlX6_75 (by decide) rfl ⟨_, _, rfl⟩ rfl ⟨Nat.le_of_ble_eq_true rfl, Nat.le_of_ble_eq_true rfl⟩ (Nat.le_of_ble_eq_true rfl) rfl dX6_letAllMove_17 (c_X9_shops) (Or.inl rfl) (fun v1 σ2 e3 => ?_)
  obtain ⟨e3a, e3b⟩ := e3; subst v1; subst σ2
  refine g_icmp_ge (tgt := 92) dX6_letAllMove_20 (by decide) (fun c4 => ?_) (fun c4 => ?_)
  · have h := h.1 c4
    exact g_return rfl dX6_letAllMove_92 h
  · have h := h.2 c4
    refine g_iconst dX6_letAllMove_23 (by decide) ?_
    refine g_istore (ls' := [some (.inr 51), some (.inl x1), some (.inl x2), some (.inl x3), some (.inl 0), none]) dX6_letAllMove_24 (by decide) rfl ?_
    exact h
set_option maxRecDepth 100000 in
theorem rX6_letAllMove_26 {x1 x2 x3 x4 : Int}  {σ : Mem} {Q : Int → Mem → Prop} (h : (x2 ≤ x4 → ((inR (x1 * 6)) ∧ (((inR (x3 + 1)) ∧ (GO none mX6_letAllMove 12 [some (.inr 51), some (.inl (x1 * 6)), some (.inl (Int.tdiv x2 6)), some (.inl (x3 + 1)), none, none] [] σ Q))))) ∧ (x4 < x2 → GO none mX6_letAllMove 35 [some (.inr 51), some (.inl x1), some (.inl x2), some (.inl x3), some (.inl x4), some (.inl 0)] [] σ Q)) : GO none mX6_letAllMove 26 [some (.inr 51), some (.inl x1), some (.inl x2), some (.inl x3), some (.inl x4), none] [] σ Q := by
  refine g_iload dX6_letAllMove_26 rfl ?_
  refine g_iload_n dX6_letAllMove_28 rfl rfl ?_
  refine g_icmp_ge (tgt := 76) dX6_letAllMove_29 (by decide) (fun c1 => ?_) (fun c1 => ?_)
  · have h := h.1 c1
    refine g_iload_n dX6_letAllMove_76 rfl rfl ?_
    refine g_bipush dX6_letAllMove_77 (by decide) (by decide) ?_
    obtain ⟨p2, h⟩ := h
    refine g_imul dX6_letAllMove_79 p2 ?_
    refine g_istore_n (ls' := [some (.inr 51), some (.inl (x1 * 6)), some (.inl x2), some (.inl x3), some (.inl x4), none]) dX6_letAllMove_80 rfl (by decide) rfl ?_
    refine g_iload_n dX6_letAllMove_81 rfl rfl ?_
    refine g_bipush dX6_letAllMove_82 (by decide) (by decide) ?_
    refine g_idiv dX6_letAllMove_84 (by decide) ?_
    refine g_istore_n (ls' := [some (.inr 51), some (.inl (x1 * 6)), some (.inl (Int.tdiv x2 6)), some (.inl x3), some (.inl x4), none]) dX6_letAllMove_85 rfl (by decide) rfl ?_
    obtain ⟨p3, h⟩ := h
    refine g_iinc (ls' := [some (.inr 51), some (.inl (x1 * 6)), some (.inl (Int.tdiv x2 6)), some (.inl (x3 + 1)), some (.inl x4), none]) dX6_letAllMove_86 (by decide) rfl p3 rfl ?_
    refine g_goto (tgt := 12) dX6_letAllMove_89 (by decide) ?_
    refine g_kill (i := 4) (ls' := [some (.inr 51), some (.inl (x1 * 6)), some (.inl (Int.tdiv x2 6)), some (.inl (x3 + 1)), none, none]) rfl ?_
    exact h
  · have h := h.2 c1
    refine g_iconst dX6_letAllMove_32 (by decide) ?_
    refine g_istore (ls' := [some (.inr 51), some (.inl x1), some (.inl x2), some (.inl x3), some (.inl x4), some (.inl 0)]) dX6_letAllMove_33 (by decide) rfl ?_
    exact h
set_option maxRecDepth 100000 in
theorem rX6_letAllMove_35 {x1 x2 x3 x4 x5 : Int}  {σ : Mem} {Q : Int → Mem → Prop} (h : (x1 ≤ x5 → ((inR (x4 + 1)) ∧ (GO none mX6_letAllMove 26 [some (.inr 51), some (.inl x1), some (.inl x2), some (.inl x3), some (.inl (x4 + 1)), none] [] σ Q))) ∧ (x5 < x1 → ((inR (x4 * x1)) ∧ (((inR ((x4 * x1) * 6)) ∧ (((inR (((x4 * x1) * 6) + x5)) ∧ (((0 ≤ x3) ∧ (((x3 < 5) ∧ (CM mX6_letMove [.inr 51, .inl (((x4 * x1) * 6) + x5), .inl x1, .inl (σ 18 (x3).toNat)] σ (fun _ σ12 => ((inR (x5 + 1)) ∧ (GO none mX6_letAllMove 35 [some (.inr 51), some (.inl x1), some (.inl x2), some (.inl x3), some (.inl x4), some (.inl (x5 + 1))] [] σ12 Q))))))))))))))) : GO none mX6_letAllMove 35 [some (.inr 51), some (.inl x1), some (.inl x2), some (.inl x3), some (.inl x4), some (.inl x5)] [] σ Q := by
  refine g_iload dX6_letAllMove_35 rfl ?_
  refine g_iload_n dX6_letAllMove_37 rfl rfl ?_
  refine g_icmp_ge (tgt := 70) dX6_letAllMove_38 (by decide) (fun c1 => ?_) (fun c1 => ?_)
  · have h := h.1 c1
    obtain ⟨p2, h⟩ := h
    refine g_iinc (ls' := [some (.inr 51), some (.inl x1), some (.inl x2), some (.inl x3), some (.inl (x4 + 1)), some (.inl x5)]) dX6_letAllMove_70 (by decide) rfl p2 rfl ?_
    refine g_goto (tgt := 26) dX6_letAllMove_73 (by decide) ?_
    refine g_kill (i := 5) (ls' := [some (.inr 51), some (.inl x1), some (.inl x2), some (.inl x3), some (.inl (x4 + 1)), none]) rfl ?_
    exact h
  · have h := h.2 c1
    refine g_aload_n dX6_letAllMove_41 rfl rfl ?_
    refine g_iload dX6_letAllMove_42 rfl ?_
    refine g_iload_n dX6_letAllMove_44 rfl rfl ?_
    obtain ⟨p3, h⟩ := h
    refine g_imul dX6_letAllMove_45 p3 ?_
    refine g_bipush dX6_letAllMove_46 (by decide) (by decide) ?_
    obtain ⟨p4, h⟩ := h
    refine g_imul dX6_letAllMove_48 p4 ?_
    refine g_iload dX6_letAllMove_49 rfl ?_
    obtain ⟨p5, h⟩ := h
    refine g_iadd dX6_letAllMove_51 p5 ?_
    refine g_iload_n dX6_letAllMove_52 rfl rfl ?_
    refine g_aload_n dX6_letAllMove_53 rfl rfl ?_
    refine g_getR (r' := 14) flX6_50 (by decide) rfl (by decide) rfl dX6_letAllMove_54 ?_
    refine g_iload_n dX6_letAllMove_57 rfl rfl ?_
    obtain ⟨p6, h⟩ := h
    obtain ⟨p7, h⟩ := h
    refine g_invVI (as := [.inl x3]) (rest := [.inl x1, .inl (((x4 * x1) * 6) + x5), .inr 51]) okX9_weightOf mlX6_116 (by decide) rfl ⟨_, _, rfl⟩ rfl ⟨Nat.le_of_ble_eq_true rfl, Nat.le_of_ble_eq_true rfl⟩ (Nat.le_of_ble_eq_true rfl) rfl dX6_letAllMove_58 (c_X9_weightOf p6 p7) (Or.inl rfl) (fun v8 σ9 e10 => ?_)
    obtain ⟨e10a, e10b⟩ := e10; subst v8; subst σ9
    refine g_invVV (as := [.inl (((x4 * x1) * 6) + x5), .inl x1, .inl (σ 18 (x3).toNat)]) (rest := []) okX6_letMove mlX6_119 (by decide) rfl ⟨_, _, rfl⟩ rfl ⟨Nat.le_of_ble_eq_true rfl, Nat.le_of_ble_eq_true rfl⟩ (Nat.le_of_ble_eq_true rfl) rfl dX6_letAllMove_61 h rfl (fun σ12 e13 => ?_)
    have h := e13
    obtain ⟨p14, h⟩ := h
    refine g_iinc (ls' := [some (.inr 51), some (.inl x1), some (.inl x2), some (.inl x3), some (.inl x4), some (.inl (x5 + 1))]) dX6_letAllMove_64 (by decide) rfl p14 rfl ?_
    refine g_goto (tgt := 35) dX6_letAllMove_67 (by decide) ?_
    exact h
theorem c_X6_letAllMove {m : Nat} {w : Nat → Int} {σ : Mem} (hm : σ 14 6 = m) (h5 : m ≤ 5) (hw : σ 18 = w) (hwb : ∀ i, i < 5 → 0 ≤ w i ∧ w i ≤ 50) (hf : ∀ t, t < 7776 → 0 ≤ σ 64 t ∧ σ 64 t ≤ 268435456) : CM mX6_letAllMove [.inr 51] σ (fun _ σ1 => σ1 = setA σ 64 (alF w m (σ 64) m)) := by
  have abd : ∀ i, i ≤ m → ∀ t, t < 7776 → 0 ≤ alF w m (σ 64) i t ∧ alF w m (σ 64) i t ≤ 268435456 := by
    intro i
    induction i with
    | zero => intro _; exact hf
    | succ i ih => intro hi; exact dnF_bd h5 (by omega) (hwb i (by omega)).1 (Nat.le_refl _) (Or.inl rfl) (ih (by omega))
  have e14 : ∀ g, setA σ 64 g 14 6 = m := fun g => by rw [setA_ne (by decide)]; exact hm
  have e18 : ∀ g, setA σ 64 g 18 = w := fun g => by rw [setA_ne (by decide)]; exact hw
  refine rX6_letAllMove_0 (CM.mono (fun v σ2 h => ?_) (c_X6_toldEnd hm h5))
  obtain ⟨rfl, rfl⟩ := h
  have outer : ∀ (d i : Nat), i + d = m → GO none mX6_letAllMove 12 [some (.inr 51), some (.inl ((6 ^ i : Nat) : Int)), some (.inl (Int.tdiv ((6 ^ (m - i) : Nat) : Int) 6)), some (.inl (i : Int)), none, none] [] (setA σ2 64 (alF w m (σ2 64) i)) (fun _ σ1 => σ1 = setA σ2 64 (alF w m (σ2 64) m)) := by
    intro d
    induction d with
    | zero =>
      intro i hd
      exact rX6_letAllMove_12 ⟨fun _ => by rw [show i = m by omega], fun h => by rw [e14] at h; omega⟩
    | succ d ih =>
      intro i hd
      have hP5 := pow6_le (m := i) (by omega)
      have hP4 : 6 ^ i ≤ 1296 := by
        rcases (show i = 0 ∨ i = 1 ∨ i = 2 ∨ i = 3 ∨ i = 4 by omega) with rfl | rfl | rfl | rfl | rfl <;> decide
      have hbl : Int.tdiv ((6 ^ (m - i) : Nat) : Int) 6 = ((6 ^ (m - 1 - i) : Nat) : Int) := by
        rw [show m - i = (m - 1 - i) + 1 by omega, Nat.pow_succ, Int.tdiv_eq_ediv_of_nonneg (by omega)]
        generalize 6 ^ (m - 1 - i) = P
        omega
      have hbp : 6 ^ (m - 1 - i) ≤ 1296 := by
        rcases (show m - 1 - i = 0 ∨ m - 1 - i = 1 ∨ m - 1 - i = 2 ∨ m - 1 - i = 3 ∨ m - 1 - i = 4 by omega) with e | e | e | e | e <;> rw [e] <;> decide
      refine rX6_letAllMove_12 ⟨fun h => by rw [e14] at h; omega, fun _ => ?_⟩
      rw [hbl]
      have blocks : ∀ (d2 b : Nat), b + d2 = 6 ^ (m - 1 - i) → GO none mX6_letAllMove 26 [some (.inr 51), some (.inl ((6 ^ i : Nat) : Int)), some (.inl ((6 ^ (m - 1 - i) : Nat) : Int)), some (.inl (i : Int)), some (.inl (b : Int)), none] [] (setA σ2 64 (dnF (alF w m (σ2 64) i) i (w i) b 0)) (fun _ σ1 => σ1 = setA σ2 64 (alF w m (σ2 64) m)) := by
        intro d2
        induction d2 with
        | zero =>
          intro b hd2
          have := ih (i + 1) (by omega)
          rw [Nat.pow_succ, show m - (i + 1) = m - 1 - i by omega] at this
          have hb : b = 6 ^ (m - 1 - i) := by omega
          subst hb
          refine rX6_letAllMove_26 ⟨fun _ => ?_, fun h => by omega⟩
          generalize 6 ^ i = P at this hP4 ⊢
          rw [show ((P * 6 : Nat) : Int) = (P : Int) * 6 by omega] at this
          exact ⟨by omega, by omega, this⟩
        | succ d2 ih2 =>
          intro b hd2
          refine rX6_letAllMove_26 ⟨fun h => by generalize 6 ^ (m - 1 - i) = P at hd2 h; omega, fun _ => ?_⟩
          have lows : ∀ (d3 l : Nat), l + d3 = 6 ^ i → GO none mX6_letAllMove 35 [some (.inr 51), some (.inl ((6 ^ i : Nat) : Int)), some (.inl ((6 ^ (m - 1 - i) : Nat) : Int)), some (.inl (i : Int)), some (.inl (b : Int)), some (.inl (l : Int))] [] (setA σ2 64 (dnF (alF w m (σ2 64) i) i (w i) b l)) (fun _ σ1 => σ1 = setA σ2 64 (alF w m (σ2 64) m)) := by
            intro d3
            induction d3 with
            | zero =>
              intro l hd3
              have := ih2 (b + 1) (by generalize 6 ^ (m - 1 - i) = P at hd2 ⊢; omega)
              have e : dnF (alF w m (σ2 64) i) i (w i) b l = dnF (alF w m (σ2 64) i) i (w i) (b + 1) 0 := by
                funext t
                have hlt : t % 6 ^ i < 6 ^ i := Nat.mod_lt _ (Nat.pow_pos (by decide))
                unfold dnF
                by_cases q : t / (6 * 6 ^ i) < b ∨ (t / (6 * 6 ^ i) = b ∧ t % 6 ^ i < l)
                · rw [if_pos q, if_pos (by omega)]
                · rw [if_neg q, if_neg (by omega)]
              rw [e]
              refine rX6_letAllMove_35 ⟨fun _ => ⟨by generalize 6 ^ (m - 1 - i) = P at hd2 hbp; omega, this⟩, fun h => by generalize 6 ^ i = P at hd3 h; omega⟩
            | succ d3 ih3 =>
              intro l hd3
              have hl : l < 6 ^ i := by omega
              have hb : b < 6 ^ (m - 1 - i) := by omega
              have hlt := blk_lt (s := 5) (show i < m by omega) hb hl (by decide)
              have h7 := pow6_le h5
              have hmul : (b : Int) * ((6 ^ i : Nat) : Int) = ((b * 6 ^ i : Nat) : Int) := by rw [Int.natCast_mul]
              have hBb : b * 6 ^ i * 6 + l + 5 * 6 ^ i < 7776 := by omega
              have hwi := hwb i (by omega)
              have hpos : 0 < 6 ^ i := Nat.pow_pos (by decide)
              refine rX6_letAllMove_35 ⟨fun h => by generalize 6 ^ i = P at hd3 h; omega, fun _ => ?_⟩
              rw [e18, Int.toNat_natCast, hmul]
              refine ⟨by generalize b * 6 ^ i = B at hBb ⊢; omega, by generalize b * 6 ^ i = B at hBb ⊢; omega, by generalize b * 6 ^ i = B at hBb ⊢; omega, by omega, by omega, ?_⟩
              refine CM.mono (fun v σ12 h => ?_) (c_X6_letMove (a := b * 6 ^ i * 6 + l) (S := 6 ^ i) hpos hBb (by rw [setA_eq]; exact dnF_bd h5 (show i < m by omega) hwi.1 (by omega) (Or.inr ⟨hb, by omega⟩) (abd i (by omega))) hwi (by generalize b * 6 ^ i = B; omega) rfl)
              rw [h, setA_eq, setA_twice, dnF_step (show i < 5 by omega) hl]
              exact ⟨by generalize 6 ^ i = P at hd3 hP4; omega, ih3 (l + 1) (by omega)⟩
          exact lows (6 ^ i) 0 (by omega)
      have e0 : dnF (alF w m (σ2 64) i) i (w i) 0 0 = alF w m (σ2 64) i := by
        funext t
        unfold dnF
        rw [if_neg (by rintro (h | ⟨-, h⟩) <;> exact absurd h (Nat.not_lt_zero _))]
      have := blocks (6 ^ (m - 1 - i)) 0 (by omega)
      rw [e0] at this
      exact this
  have := outer m 0 (by omega)
  rw [show alF w m (σ2 64) 0 = σ2 64 from rfl, setA_self, Nat.pow_zero, Nat.sub_zero] at this
  exact this
/-! what it comes to -/
def mvN (w : Nat → Int) (p q : List Nat) (k : Nat) : Int := sumF (fun i => if pg p i = pg q i then 0 else w i) k
theorem pg_set {p : List Nat} {i s j : Nat} (hi : i < p.length) : pg (p.set i s) j = if j = i then s else pg p j := by
  unfold pg
  simp only [List.getD, List.getElem?_set]
  by_cases e : i = j
  · subst e; simp [hi]
  · rw [if_neg e, if_neg (fun q => e q.symm)]
theorem dl.set {m i s : Nat} {p : List Nat} (h : dl m p) (hs : s < 6) : dl m (p.set i s) := by
  refine ⟨by rw [List.length_set]; exact h.1, fun t ht => ?_⟩
  rcases List.mem_or_eq_of_mem_set ht with q | q
  · exact h.2 t q
  · rw [q]; exact hs
theorem alF_step {w : Nat → Int} {m i : Nat} {f : Nat → Int} {p : List Nat} (hm : m ≤ 5) (hi : i < m) (hp : dl m p) : alF w m f (i + 1) (tn p) = mn2 (alF w m f i (tn p)) (mnF (fun s => alF w m f i (tn (p.set i s))) 6 + w i) := by
  have h1 := tn_lt hp.2
  rw [hp.1] at h1
  have e : 6 ^ m = 6 ^ (m - 1 - i) * (6 * 6 ^ i) := by
    rw [← Nat.mul_assoc, Nat.mul_right_comm, ← Nat.pow_add, ← Nat.pow_succ]
    congr 1
    omega
  show dnF (alF w m f i) i (w i) (6 ^ (m - 1 - i)) 0 (tn p) = _
  unfold dnF
  rw [if_pos (Or.inl (Nat.div_lt_of_lt_mul (by rw [Nat.mul_comm, ← e]; exact h1)))]
  exact psF_set (by rw [hp.1]; exact hi) hp.2
theorem alF_spec {w : Nat → Int} {m : Nat} {f : Nat → Int} (hm : m ≤ 5) (hw : ∀ i, i < 5 → 0 ≤ w i) (hf : ∀ p, dl m p → f (tn p) ≤ 268435456) : ∀ i, i ≤ m → ∀ p, dl m p → alF w m f i (tn p) ≤ 268435456 ∧ (∀ q, dl m q → (∀ j, i ≤ j → pg p j = pg q j) → alF w m f i (tn p) ≤ f (tn q) + mvN w p q i) ∧ ∃ q, dl m q ∧ (∀ j, i ≤ j → pg p j = pg q j) ∧ alF w m f i (tn p) = f (tn q) + mvN w p q i := by
  intro i
  induction i with
  | zero =>
    intro _ p hp
    refine ⟨hf p hp, fun q hq hj => ?_, p, hp, fun _ _ => rfl, ?_⟩
    · have e : p = q := List.ext_getElem (by rw [hp.1, hq.1]) (fun k h1 h2 => by
        have := hj k (Nat.zero_le _)
        rw [pg_eq h1, pg_eq h2] at this
        exact this)
      rw [e]
      show f (tn q) ≤ f (tn q) + 0
      omega
    · show f (tn p) = f (tn p) + 0
      omega
  | succ i ih =>
    intro hi p hp
    have hil : i < p.length := by rw [hp.1]; omega
    obtain ⟨b0, l0, q0, h1, h2, h3⟩ := ih (by omega) p hp
    rw [alF_step hm (by omega) hp]
    have hmn := mnF_le (fun s => alF w m f i (tn (p.set i s))) 6
    have hwi := hw i (by omega)
    have hle1 : mn2 (alF w m f i (tn p)) (mnF (fun s => alF w m f i (tn (p.set i s))) 6 + w i) ≤ alF w m f i (tn p) := by unfold mn2; split <;> omega
    have hle2 : mn2 (alF w m f i (tn p)) (mnF (fun s => alF w m f i (tn (p.set i s))) 6 + w i) ≤ mnF (fun s => alF w m f i (tn (p.set i s))) 6 + w i := by unfold mn2; split <;> omega
    have hsum : ∀ (q : List Nat) (s : Nat), mvN w (p.set i s) q i = mvN w p q i := fun q s => by
      unfold mvN
      refine sumF_cong (fun k hk => ?_)
      have e : pg (p.set i s) k = pg p k := by rw [pg_set hil, if_neg (by omega)]
      show (if pg (p.set i s) k = pg q k then 0 else w k) = _
      rw [e]
    refine ⟨by omega, fun q hq hj => ?_, ?_⟩
    · have hs : mvN w p q (i + 1) = mvN w p q i + (if pg p i = pg q i then 0 else w i) := rfl
      by_cases e : pg p i = pg q i
      · have := l0 q hq (fun j hj2 => by
          by_cases e2 : j = i
          · rw [e2]; exact e
          · exact hj j (by omega))
        rw [hs, if_pos e]
        omega
      · have hqi : pg q i < 6 := hq.2 _ (pg_mem (by rw [hq.1]; omega))
        have h6 := hmn.2 (pg q i) hqi
        have := (ih (by omega) (p.set i (pg q i)) (hp.set hqi)).2.1 q hq (fun j hj2 => by
          rw [pg_set hil]
          by_cases e2 : j = i
          · rw [if_pos e2, e2]
          · rw [if_neg e2]; exact hj j (by omega))
        rw [hsum] at this
        rw [hs, if_neg e]
        have h7 : mnF (fun s => alF w m f i (tn (p.set i s))) 6 ≤ alF w m f i (tn (p.set i (pg q i))) := h6
        omega
    · by_cases e : alF w m f i (tn p) ≤ mnF (fun s => alF w m f i (tn (p.set i s))) 6 + w i
      · refine ⟨q0, h1, fun j hj => h2 j (by omega), ?_⟩
        have hs : mvN w p q0 (i + 1) = mvN w p q0 i + (if pg p i = pg q0 i then 0 else w i) := rfl
        rw [hs, if_pos (h2 i (Nat.le_refl _))]
        unfold mn2
        rw [if_pos e]
        omega
      · have em : mn2 (alF w m f i (tn p)) (mnF (fun s => alF w m f i (tn (p.set i s))) 6 + w i) = mnF (fun s => alF w m f i (tn (p.set i s))) 6 + w i := by
          unfold mn2
          rw [if_neg e]
        rw [em]
        rcases mnF_at (fun s => alF w m f i (tn (p.set i s))) 6 with q | ⟨s, hs6, hsv⟩
        · omega
        · have hsv : mnF (fun s => alF w m f i (tn (p.set i s))) 6 = alF w m f i (tn (p.set i s)) := hsv
          have hne : pg p i ≠ s := fun q => by
            have e2 : p.set i s = p := by
              refine List.ext_getElem (by rw [List.length_set]) (fun k k1 k2 => ?_)
              rw [List.getElem_set]
              by_cases e3 : i = k
              · subst e3
                rw [if_pos rfl, ← q, pg_eq hil]
              · rw [if_neg e3]
            rw [e2] at hsv
            omega
          obtain ⟨-, -, q, hq, hj, hv⟩ := ih (by omega) (p.set i s) (hp.set hs6)
          have hqi := hj i (Nat.le_refl _)
          rw [pg_set hil, if_pos rfl] at hqi
          refine ⟨q, hq, fun j hj2 => ?_, ?_⟩
          · have := hj j (by omega)
            rw [pg_set hil, if_neg (by omega)] at this
            exact this
          · have hs2 : mvN w p q (i + 1) = mvN w p q i + (if pg p i = pg q i then 0 else w i) := rfl
            rw [hs2, if_neg (by rw [← hqi]; exact hne), hsv, hv, hsum]
            omega
