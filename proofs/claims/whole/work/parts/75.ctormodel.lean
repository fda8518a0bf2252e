/-! ===== the constructor of the reference ===== -/
def sB : Mem := zr 73 (fX10 (zr 0 (fun _ _ => 0)))
def fX11 (σ : Mem) : Mem := mu (zr 94 (mu (zr 93 (mu (zr 92 (mu (zr 91 (mu (zr 90 (mu (zr 89 (mu (zr 88 (mu (zr 87 (mu (zr 86 (mu (zr 85 (mu (zr 84 (mu (zr 83 (mu (zr 82 (mu (zr 81 (mu (zr 80 (mu (zr 79 (mu (zr 78 (mu (zr 77 (mu (mu (zr 76 (mu (zr 75 (mu (zr 74 σ) 73 0 1)) 73 1 1)) 73 3 1) 73 4 41)) 73 6 1)) 73 7 1)) 73 8 1)) 73 10 1)) 73 11 1)) 73 12 1)) 73 13 1)) 73 14 1)) 73 15 1)) 73 16 1)) 73 17 1)) 73 18 1)) 73 21 1)) 73 22 1)) 73 25 1)) 73 27 1)) 73 28 1)) 73 29 1
def sC : Mem := fX11 sB
theorem rfsL_30 : ∀ k, k < 95 → (rfsL.getD k []).length ≤ 30 := by decide +kernel
theorem full_of {σ : Mem} (h : (List.range 95).all (fun k => (List.range 30).all (fun j => (rfs k j).isNone || !(σ k j == 0))) = true) : full σ := by
  intro k j r hk hr hz
  have hk : k < 95 := hk
  have hj : j < 30 := by
    have h2 := getD_lt (show (rfsL.getD k []).getD j none = some r from hr)
    have := rfsL_30 k hk
    omega
  have h1 := List.all_eq_true.mp (List.all_eq_true.mp h k (List.mem_range.mpr hk)) j (List.mem_range.mpr hj)
  rw [hr, hz] at h1
  cases h1
theorem full_sC : full sC := full_of (by decide +kernel)
theorem full.same {S : List Nat} {σ σ1 : Mem} (h : full σ) (hS : Same S σ σ1) (hn : ∀ a ∈ S, ∀ j, rfs a j = none) : full σ1 := by
  intro k j r hk hr
  have : σ1 k = σ k := hS k (fun q => by rw [hn k q j] at hr; cases hr)
  rw [this]
  exact h k j r hk hr
set_option maxRecDepth 100000 in
theorem rX11_init_177  {σ : Mem} {Q : Int → Mem → Prop} (h : GO none mX11_init 179 [some (.inr 73), some (.inl 0)] [] σ Q) : GO none mX11_init 177 [some (.inr 73), none] [] σ Q := by
  refine g_iconst dX11_init_177 (by decide) ?_
  refine g_istore_n (ls' := [some (.inr 73), some (.inl 0)]) dX11_init_178 rfl (by decide) rfl ?_
  exact h
set_option maxRecDepth 100000 in
theorem rX11_init_179 {x1 : Int}  {σ : Mem} {Q : Int → Mem → Prop} (h : (36 ≤ x1 → Q 0 σ) ∧ (x1 < 36 → ((0 ≤ x1) ∧ (((inR (x1 + 1)) ∧ (GO none mX11_init 179 [some (.inr 73), some (.inl (x1 + 1))] [] (mu σ 74 (x1).toNat (-1)) Q)))))) : GO none mX11_init 179 [some (.inr 73), some (.inl x1)] [] σ Q := by
  refine g_iload_n dX11_init_179 rfl rfl ?_
  refine g_bipush dX11_init_180 (by decide) (by decide) ?_
  refine g_icmp_ge (tgt := 198) dX11_init_182 (by decide) (fun c1 => ?_) (fun c1 => ?_)
  · have h := h.1 c1
    exact g_return rfl dX11_init_198 h
  · have h := h.2 c1
    refine g_aload_n dX11_init_185 rfl rfl ?_
    refine g_getR (r' := 74) flX11_7 (by decide) rfl (by decide) rfl dX11_init_186 ?_
    refine g_iload_n dX11_init_189 rfl rfl ?_
    refine g_iconst dX11_init_190 (by decide) ?_
    obtain ⟨p2, h⟩ := h
    refine g_iast (by decide) rfl p2 c1 dX11_init_191 ?_
    obtain ⟨p3, h⟩ := h
    refine g_iinc (ls' := [some (.inr 73), some (.inl (x1 + 1))]) dX11_init_192 (by decide) rfl p3 rfl ?_
    refine g_goto (tgt := 179) dX11_init_195 (by decide) ?_
    exact h
def iQ (σ1 : Mem) : Prop := Same [74] sC σ1 ∧ ∀ c, c < 36 → σ1 74 c = -1
theorem b_X11_loop : GO none mX11_init 177 [some (.inr 73), none] [] sC (fun _ σ1 => iQ σ1) := by
  have key : ∀ (d i : Nat) (σ0 : Mem), i + d = 36 → Same [74] sC σ0 → (∀ c, c < i → σ0 74 c = -1) → GO none mX11_init 179 [some (.inr 73), some (.inl (i : Int))] [] σ0 (fun _ σ1 => iQ σ1) := by
    intro d
    induction d with
    | zero =>
      intro i σ0 hd hS h
      exact rX11_init_179 ⟨fun _ => ⟨hS, fun c hc => h c (by omega)⟩, fun z => by omega⟩
    | succ d ih =>
      intro i σ0 hd hS h
      refine rX11_init_179 ⟨fun z => by omega, fun _ => ⟨by omega, by omega, ?_⟩⟩
      rw [Int.toNat_natCast]
      refine ih (i + 1) _ (by omega) (hS.tr (Same.mu (by decide))) (fun c hc => ?_)
      rw [mu_at]
      by_cases e : c = i
      · rw [if_pos e]
      · rw [if_neg e]; exact h c (by omega)
  exact rX11_init_177 (key 36 0 sC rfl Same.rf (fun c h => by omega))
theorem rfs_74 (j : Nat) : rfs 74 j = none := by
  show ([] : List (Option Nat)).getD j none = none
  simp
set_option maxRecDepth 100000 in
theorem b_X11_init : CB mX11_init [.inr 73] 74 95 sB (fun σ1 => iQ σ1) := by
  refine CB_of_GW (by decide +kernel) ⟨rfl, rfl⟩ (Nat.le_of_ble_eq_true rfl) rfl ?_
  show GW none mX11_init 74 95 0 [some (.inr 73), none] [] 74 sB _
  refine gb_aload_n dX11_init_0 rfl rfl ?_
  refine gb_obj obX11 (Nat.le_of_ble_eq_true rfl) (Nat.le_of_ble_eq_true rfl) dX11_init_1 ?_
  refine gb_aload_n dX11_init_4 rfl rfl ?_
  refine gb_bipush dX11_init_5 (by decide) (by decide) ?_
  refine gb_newI rfl ar_i rfl (by decide) (by decide) (by decide) dX11_init_7 ?_
  refine gb_putR frX11_7 rfl (by decide) (by decide) rfl (by decide) rfl dX11_init_9 ?_
  refine gb_aload_n dX11_init_12 rfl rfl ?_
  refine gb_bipush dX11_init_13 (by decide) (by decide) ?_
  refine gb_newZ rfl ar_z rfl (by decide) (by decide) (by decide) dX11_init_15 ?_
  refine gb_putR frX11_13 rfl (by decide) (by decide) rfl (by decide) rfl dX11_init_17 ?_
  refine gb_aload_n dX11_init_20 rfl rfl ?_
  refine gb_bipush dX11_init_21 (by decide) (by decide) ?_
  refine gb_newI rfl ar_i rfl (by decide) (by decide) (by decide) dX11_init_23 ?_
  refine gb_putR frX11_17 rfl (by decide) (by decide) rfl (by decide) rfl dX11_init_25 ?_
  refine gb_aload_n dX11_init_28 rfl rfl ?_
  refine gb_bipush dX11_init_29 (by decide) (by decide) ?_
  refine gb_putI fpX11_20 (by decide) rfl (by decide) rfl (Or.inl rfl) dX11_init_31 ?_
  refine gb_aload_n dX11_init_34 rfl rfl ?_
  refine gb_iconst dX11_init_35 (by decide) ?_
  refine gb_newI rfl ar_i rfl (by decide) (by decide) (by decide) dX11_init_36 ?_
  refine gb_putR frX11_24 rfl (by decide) (by decide) rfl (by decide) rfl dX11_init_38 ?_
  refine gb_aload_n dX11_init_41 rfl rfl ?_
  refine gb_bipush dX11_init_42 (by decide) (by decide) ?_
  refine gb_newI rfl ar_i rfl (by decide) (by decide) (by decide) dX11_init_44 ?_
  refine gb_putR frX11_27 rfl (by decide) (by decide) rfl (by decide) rfl dX11_init_46 ?_
  refine gb_aload_n dX11_init_49 rfl rfl ?_
  refine gb_iconst dX11_init_50 (by decide) ?_
  refine gb_newI rfl ar_i rfl (by decide) (by decide) (by decide) dX11_init_51 ?_
  refine gb_putR frX11_30 rfl (by decide) (by decide) rfl (by decide) rfl dX11_init_53 ?_
  refine gb_aload_n dX11_init_56 rfl rfl ?_
  refine gb_bipush dX11_init_57 (by decide) (by decide) ?_
  refine gb_newI rfl ar_i rfl (by decide) (by decide) (by decide) dX11_init_59 ?_
  refine gb_putR frX11_33 rfl (by decide) (by decide) rfl (by decide) rfl dX11_init_61 ?_
  refine gb_aload_n dX11_init_64 rfl rfl ?_
  refine gb_bipush dX11_init_65 (by decide) (by decide) ?_
  refine gb_newI rfl ar_i rfl (by decide) (by decide) (by decide) dX11_init_67 ?_
  refine gb_putR frX11_36 rfl (by decide) (by decide) rfl (by decide) rfl dX11_init_69 ?_
  refine gb_aload_n dX11_init_72 rfl rfl ?_
  refine gb_bipush dX11_init_73 (by decide) (by decide) ?_
  refine gb_newZ rfl ar_z rfl (by decide) (by decide) (by decide) dX11_init_75 ?_
  refine gb_putR frX11_39 rfl (by decide) (by decide) rfl (by decide) rfl dX11_init_77 ?_
  refine gb_aload_n dX11_init_80 rfl rfl ?_
  refine gb_bipush dX11_init_81 (by decide) (by decide) ?_
  refine gb_newI rfl ar_i rfl (by decide) (by decide) (by decide) dX11_init_83 ?_
  refine gb_putR frX11_42 rfl (by decide) (by decide) rfl (by decide) rfl dX11_init_85 ?_
  refine gb_aload_n dX11_init_88 rfl rfl ?_
  refine gb_bipush dX11_init_89 (by decide) (by decide) ?_
  refine gb_newI rfl ar_i rfl (by decide) (by decide) (by decide) dX11_init_91 ?_
  refine gb_putR frX11_45 rfl (by decide) (by decide) rfl (by decide) rfl dX11_init_93 ?_
  refine gb_aload_n dX11_init_96 rfl rfl ?_
  refine gb_bipush dX11_init_97 (by decide) (by decide) ?_
  refine gb_newI rfl ar_i rfl (by decide) (by decide) (by decide) dX11_init_99 ?_
  refine gb_putR frX11_48 rfl (by decide) (by decide) rfl (by decide) rfl dX11_init_101 ?_
  refine gb_aload_n dX11_init_104 rfl rfl ?_
  refine gb_bipush dX11_init_105 (by decide) (by decide) ?_
  refine gb_newI rfl ar_i rfl (by decide) (by decide) (by decide) dX11_init_107 ?_
  refine gb_putR frX11_51 rfl (by decide) (by decide) rfl (by decide) rfl dX11_init_109 ?_
  refine gb_aload_n dX11_init_112 rfl rfl ?_
  refine gb_bipush dX11_init_113 (by decide) (by decide) ?_
  refine gb_newI rfl ar_i rfl (by decide) (by decide) (by decide) dX11_init_115 ?_
  refine gb_putR frX11_54 rfl (by decide) (by decide) rfl (by decide) rfl dX11_init_117 ?_
  refine gb_aload_n dX11_init_120 rfl rfl ?_
  refine gb_iconst dX11_init_121 (by decide) ?_
  refine gb_newI rfl ar_i rfl (by decide) (by decide) (by decide) dX11_init_122 ?_
  refine gb_putR frX11_57 rfl (by decide) (by decide) rfl (by decide) rfl dX11_init_124 ?_
  refine gb_aload_n dX11_init_127 rfl rfl ?_
  refine gb_bipush dX11_init_128 (by decide) (by decide) ?_
  refine gb_newI rfl ar_i rfl (by decide) (by decide) (by decide) dX11_init_130 ?_
  refine gb_putR frX11_60 rfl (by decide) (by decide) rfl (by decide) rfl dX11_init_132 ?_
  refine gb_aload_n dX11_init_135 rfl rfl ?_
  refine gb_bipush dX11_init_136 (by decide) (by decide) ?_
  refine gb_newI rfl ar_i rfl (by decide) (by decide) (by decide) dX11_init_138 ?_
  refine gb_putR frX11_63 rfl (by decide) (by decide) rfl (by decide) rfl dX11_init_140 ?_
  refine gb_aload_n dX11_init_143 rfl rfl ?_
  refine gb_sipush dX11_init_144 (by decide) (by decide) ?_
  refine gb_newI rfl ar_i rfl (by decide) (by decide) (by decide) dX11_init_147 ?_
  refine gb_putR frX11_66 rfl (by decide) (by decide) rfl (by decide) rfl dX11_init_149 ?_
  refine gb_aload_n dX11_init_152 rfl rfl ?_
  refine gb_sipush dX11_init_153 (by decide) (by decide) ?_
  refine gb_newI rfl ar_i rfl (by decide) (by decide) (by decide) dX11_init_156 ?_
  refine gb_putR frX11_69 rfl (by decide) (by decide) rfl (by decide) rfl dX11_init_158 ?_
  refine gb_aload_n dX11_init_161 rfl rfl ?_
  refine gb_sipush dX11_init_162 (by decide) (by decide) ?_
  refine gb_newI rfl ar_i rfl (by decide) (by decide) (by decide) dX11_init_165 ?_
  refine gb_putR frX11_72 rfl (by decide) (by decide) rfl (by decide) rfl dX11_init_167 ?_
  refine gb_aload_n dX11_init_170 rfl rfl ?_
  refine gb_iconst dX11_init_171 (by decide) ?_
  refine gb_newI rfl ar_i rfl (by decide) (by decide) (by decide) dX11_init_172 ?_
  refine gb_putR frX11_75 rfl (by decide) (by decide) rfl (by decide) rfl dX11_init_174 ?_
  exact gb_toGO rfl rfl (by decide) full_sC (fun v σ1 h => full_sC.same h.1 (fun a ha j => by rw [List.mem_singleton.mp ha]; exact rfs_74 j)) b_X11_loop
