/-! ===== ways: shortest, over aisles alone in between ===== -/
def nL (c : Nat) : Int := if 0 < c % 6 then (c : Int) - 1 else -1
def nRt (c : Nat) : Int := if c % 6 < 5 then (c : Int) + 1 else -1
def nU (c : Nat) : Int := if 0 < c / 6 then (c : Int) - 6 else -1
def nDn (c : Nat) : Int := if c / 6 < 5 then (c : Int) + 6 else -1
def adj (c d : Nat) : Prop := (d : Int) = nL c ∨ (d : Int) = nRt c ∨ (d : Int) = nU c ∨ (d : Int) = nDn c
theorem adj_lt {c d : Nat} (h : adj c d) (hc : c < 36) : d < 36 := by
  unfold adj nL nRt nU nDn at h
  rcases h with h | h | h | h <;> split at h <;> omega
theorem adj_sym {c d : Nat} (h : adj c d) (hc : c < 36) : adj d c := by
  unfold adj nL nRt nU nDn at h ⊢
  rcases h with h | h | h | h <;> split at h
  · right; left; rw [if_pos (by omega)]; omega
  · omega
  · left; rw [if_pos (by omega)]; omega
  · omega
  · right; right; right; rw [if_pos (by omega)]; omega
  · omega
  · right; right; left; rw [if_pos (by omega)]; omega
  · omega
/-- a way of n steps -/
def rch (col slt : Nat → Prop) (s0 : Nat) : Nat → Nat → Prop
  | 0, d => d = s0
  | n + 1, d => ∃ c, rch col slt s0 n c ∧ (c = s0 ∨ ¬ slt c) ∧ adj c d ∧ ¬ col d
/-- f tells the shortest ways -/
def IsD (col slt : Nat → Prop) (s0 : Nat) (f : Nat → Int) : Prop := ∀ d, d < 36 → (f d = -1 ∧ ∀ n, ¬ rch col slt s0 n d) ∨ ∃ n : Nat, f d = (n : Int) ∧ n ≤ 36 ∧ rch col slt s0 n d ∧ ∀ m, m < n → ¬ rch col slt s0 m d
theorem IsD.un {col slt : Nat → Prop} {s0 : Nat} {f g : Nat → Int} (h1 : IsD col slt s0 f) (h2 : IsD col slt s0 g) {d : Nat} (hd : d < 36) : f d = g d := by
  rcases h1 d hd with ⟨a1, a2⟩ | ⟨n, a1, -, a2, a3⟩ <;> rcases h2 d hd with ⟨b1, b2⟩ | ⟨m, b1, -, b2, b3⟩
  · rw [a1, b1]
  · exact absurd b2 (a2 m)
  · exact absurd a2 (b2 n)
  · rcases Nat.lt_trichotomy n m with h | h | h
    · exact absurd a2 (b3 n h)
    · rw [a1, b1, h]
    · exact absurd b2 (a3 m h)
theorem rch_lt {col slt : Nat → Prop} {s0 : Nat} (h0 : s0 < 36) : ∀ {n d : Nat}, rch col slt s0 n d → d < 36
  | 0, d, h => by
    have : d = s0 := h
    omega
  | n + 1, d, h => by
    obtain ⟨c, h1, -, h3, -⟩ := h
    exact adj_lt h3 (rch_lt h0 h1)
/-- a way from the other end: the first step first -/
theorem rch_front {col slt : Nat → Prop} : ∀ (n : Nat) (a b d : Nat), adj a b → ¬ col b → ¬ slt b → rch col slt b n d → rch col slt a (n + 1) d
  | 0, a, b, d, h1, h2, h3, h4 => by
    have e : d = b := h4
    subst e
    exact ⟨a, rfl, Or.inl rfl, h1, h2⟩
  | n + 1, a, b, d, h1, h2, h3, h4 => by
    obtain ⟨c, q1, q2, q3, q4⟩ := h4
    refine ⟨c, rch_front n a b c h1 h2 h3 q1, Or.inr ?_, q3, q4⟩
    rcases q2 with q2 | q2
    · rw [q2]; exact h3
    · exact q2
theorem rch_sym {col slt : Nat → Prop} {a : Nat} (h1 : a < 36) (h2 : ¬ col a) : ∀ (n : Nat) (b : Nat), rch col slt a n b → ∃ m, m ≤ n ∧ rch col slt b m a
  | 0, b, h => by
    have e : b = a := h
    exact ⟨0, Nat.le_refl _, e.symm⟩
  | n + 1, b, h => by
    obtain ⟨c, q1, q2, q3, q4⟩ := h
    have hc : c < 36 := rch_lt h1 q1
    have hb := adj_sym q3 hc
    by_cases e : c = a
    · subst e
      exact ⟨1, by omega, b, rfl, Or.inl rfl, hb, h2⟩
    · have q2 : ¬ slt c := q2.resolve_left e
      have hcc : ¬ col c := by
        cases n with
        | zero => exact absurd q1 e
        | succ n =>
          obtain ⟨_, _, _, _, w⟩ := q1
          exact w
      obtain ⟨m, hm, w⟩ := rch_sym h1 h2 n c q1
      exact ⟨m + 1, by omega, rch_front m b c a hb hcc q2 w⟩
theorem IsD.sym {col slt : Nat → Prop} {a b : Nat} {f g : Nat → Int} (hf : IsD col slt a f) (hg : IsD col slt b g) (ha : a < 36) (hb : b < 36) (ca : ¬ col a) (cb : ¬ col b) : f b = g a := by
  rcases hf b hb with ⟨a1, a2⟩ | ⟨n, a1, -, a2, a3⟩ <;> rcases hg a ha with ⟨b1, b2⟩ | ⟨m, b1, -, b2, b3⟩
  · rw [a1, b1]
  · obtain ⟨m', -, w⟩ := rch_sym hb cb m a b2
    exact absurd w (a2 m')
  · obtain ⟨m', -, w⟩ := rch_sym ha ca n b a2
    exact absurd w (b2 m')
  · obtain ⟨m', h1, w⟩ := rch_sym hb cb m a b2
    obtain ⟨n', h2, w2⟩ := rch_sym ha ca n b a2
    have h3 : ¬ m' < n := fun q => a3 _ q w
    have h4 : ¬ n' < m := fun q => b3 _ q w2
    omega
theorem IsD.self {col slt : Nat → Prop} {a : Nat} {f : Nat → Int} (hf : IsD col slt a f) (ha : a < 36) : f a = 0 := by
  rcases hf a ha with ⟨-, a2⟩ | ⟨n, a1, -, -, a3⟩
  · exact absurd rfl (a2 0)
  · have : ¬ 0 < n := fun q => a3 0 q rfl
    omega
theorem IsD.bd {col slt : Nat → Prop} {a d : Nat} {f : Nat → Int} (hf : IsD col slt a f) (ha : d < 36) : -1 ≤ f d ∧ f d ≤ 36 := by
  rcases hf d ha with ⟨a1, -⟩ | ⟨n, a1, a2, -, -⟩ <;> omega
/-! the search with a queue -/
theorem pg_app {L : List Nat} {d j : Nat} (h : j < L.length) : pg (L ++ [d]) j = pg L j := by
  rw [pg_eq h, pg_eq (by rw [List.length_append]; omega), List.getElem_append_left h]
theorem pg_last {L : List Nat} {d : Nat} : pg (L ++ [d]) L.length = d := by
  rw [pg_eq (by rw [List.length_append, List.length_singleton]; omega)]
  simp
theorem mem_pg {L : List Nat} {c : Nat} (h : c ∈ L) : ∃ j, j < L.length ∧ pg L j = c := by
  obtain ⟨j, hj, e⟩ := List.getElem_of_mem h
  exact ⟨j, hj, by rw [pg_eq hj]; exact e⟩
theorem nd_len {L : List Nat} (h : L.Nodup) (hl : ∀ c ∈ L, c < 36) : L.length ≤ 36 := by
  have h2 := List.Nodup.length_le_of_subset h (l₂ := List.range 36) (fun j hj => List.mem_range.mpr (hl j hj))
  rw [List.length_range] at h2
  exact h2
abbrev BJ (col slt : Nat → Prop) (s0 i : Nat) (L : List Nat) (f : Nat → Int) (P : Nat → Prop) (v : Int) : Prop := (L.Nodup) ∧ (∀ c ∈ L, c < 36) ∧ (f s0 = 0) ∧ (∀ c ∈ L, f c ≠ -1) ∧ (∀ c ∈ L, c = s0 ∨ ¬ slt c) ∧ (∀ d, d < 36 → f d ≠ -1 → 0 ≤ f d ∧ rch col slt s0 (f d).toNat d) ∧ (∀ d, d < 36 → f d ≠ -1 → (d = s0 ∨ ¬ slt d) → d ∈ L) ∧ (∀ j k, j ≤ k → k < L.length → f (pg L j) ≤ f (pg L k)) ∧ (∀ j, j < L.length → f (pg L j) ≤ j) ∧ (∀ d, d < 36 → f d ≤ v + 1) ∧ (∀ j, j < L.length → j < i → ∀ d, adj (pg L j) d → ¬ col d → f d ≠ -1 ∧ f d ≤ f (pg L j) + 1) ∧ (i < L.length → f (pg L i) = v) ∧ (v ≤ 35) ∧ (∀ d, P d → ¬ col d → f d ≠ -1 ∧ f d ≤ v + 1)
theorem BJ.nd {col slt : Nat → Prop} {s0 i : Nat} {L : List Nat} {f : Nat → Int} {P : Nat → Prop} {v : Int} (h : BJ col slt s0 i L f P v) : L.Nodup := h.1
theorem BJ.lt {col slt : Nat → Prop} {s0 i : Nat} {L : List Nat} {f : Nat → Int} {P : Nat → Prop} {v : Int} (h : BJ col slt s0 i L f P v) : ∀ c ∈ L, c < 36 := h.2.1
theorem BJ.z {col slt : Nat → Prop} {s0 i : Nat} {L : List Nat} {f : Nat → Int} {P : Nat → Prop} {v : Int} (h : BJ col slt s0 i L f P v) : f s0 = 0 := h.2.2.1
theorem BJ.kn {col slt : Nat → Prop} {s0 i : Nat} {L : List Nat} {f : Nat → Int} {P : Nat → Prop} {v : Int} (h : BJ col slt s0 i L f P v) : ∀ c ∈ L, f c ≠ -1 := h.2.2.2.1
theorem BJ.sl {col slt : Nat → Prop} {s0 i : Nat} {L : List Nat} {f : Nat → Int} {P : Nat → Prop} {v : Int} (h : BJ col slt s0 i L f P v) : ∀ c ∈ L, c = s0 ∨ ¬ slt c := h.2.2.2.2.1
theorem BJ.snd {col slt : Nat → Prop} {s0 i : Nat} {L : List Nat} {f : Nat → Int} {P : Nat → Prop} {v : Int} (h : BJ col slt s0 i L f P v) : ∀ d, d < 36 → f d ≠ -1 → 0 ≤ f d ∧ rch col slt s0 (f d).toNat d := h.2.2.2.2.2.1
theorem BJ.op {col slt : Nat → Prop} {s0 i : Nat} {L : List Nat} {f : Nat → Int} {P : Nat → Prop} {v : Int} (h : BJ col slt s0 i L f P v) : ∀ d, d < 36 → f d ≠ -1 → (d = s0 ∨ ¬ slt d) → d ∈ L := h.2.2.2.2.2.2.1
theorem BJ.mono {col slt : Nat → Prop} {s0 i : Nat} {L : List Nat} {f : Nat → Int} {P : Nat → Prop} {v : Int} (h : BJ col slt s0 i L f P v) : ∀ j k, j ≤ k → k < L.length → f (pg L j) ≤ f (pg L k) := h.2.2.2.2.2.2.2.1
theorem BJ.idx {col slt : Nat → Prop} {s0 i : Nat} {L : List Nat} {f : Nat → Int} {P : Nat → Prop} {v : Int} (h : BJ col slt s0 i L f P v) : ∀ j, j < L.length → f (pg L j) ≤ j := h.2.2.2.2.2.2.2.2.1
theorem BJ.up {col slt : Nat → Prop} {s0 i : Nat} {L : List Nat} {f : Nat → Int} {P : Nat → Prop} {v : Int} (h : BJ col slt s0 i L f P v) : ∀ d, d < 36 → f d ≤ v + 1 := h.2.2.2.2.2.2.2.2.2.1
theorem BJ.pr {col slt : Nat → Prop} {s0 i : Nat} {L : List Nat} {f : Nat → Int} {P : Nat → Prop} {v : Int} (h : BJ col slt s0 i L f P v) : ∀ j, j < L.length → j < i → ∀ d, adj (pg L j) d → ¬ col d → f d ≠ -1 ∧ f d ≤ f (pg L j) + 1 := h.2.2.2.2.2.2.2.2.2.2.1
theorem BJ.cv {col slt : Nat → Prop} {s0 i : Nat} {L : List Nat} {f : Nat → Int} {P : Nat → Prop} {v : Int} (h : BJ col slt s0 i L f P v) : i < L.length → f (pg L i) = v := h.2.2.2.2.2.2.2.2.2.2.2.1
theorem BJ.vb {col slt : Nat → Prop} {s0 i : Nat} {L : List Nat} {f : Nat → Int} {P : Nat → Prop} {v : Int} (h : BJ col slt s0 i L f P v) : v ≤ 35 := h.2.2.2.2.2.2.2.2.2.2.2.2.1
theorem BJ.cu {col slt : Nat → Prop} {s0 i : Nat} {L : List Nat} {f : Nat → Int} {P : Nat → Prop} {v : Int} (h : BJ col slt s0 i L f P v) : ∀ d, P d → ¬ col d → f d ≠ -1 ∧ f d ≤ v + 1 := h.2.2.2.2.2.2.2.2.2.2.2.2.2
section
variable {col slt : Nat → Prop} {s0 i d : Nat} {L : List Nat} {f : Nat → Int} {P : Nat → Prop} {v : Int}
theorem BJ.start (h0 : s0 < 36) (hf : ∀ d, d < 36 → f d = if d = s0 then 0 else -1) : BJ col slt s0 0 [s0] f (fun _ => False) 0 := by
  have ez : f s0 = 0 := by rw [hf _ h0, if_pos rfl]
  have en : ∀ d, d < 36 → f d ≠ -1 → d = s0 := fun d hd q => by
    by_cases e : d = s0
    · exact e
    · rw [hf _ hd, if_neg e] at q
      omega
  refine ⟨by simp, fun c hc => ?_, ez, fun c hc => ?_, fun c hc => Or.inl (List.mem_singleton.mp hc), fun d hd q => ?_, fun d hd q _ => ?_, fun j k hjk hk => ?_, fun j hj => ?_, fun d hd => ?_, fun j _ h => by omega, fun _ => ez, by omega, fun d h => h.elim⟩
  · rw [List.mem_singleton.mp hc]; exact h0
  · rw [List.mem_singleton.mp hc, ez]; omega
  · rw [en d hd q, ez]; exact ⟨by omega, rfl⟩
  · rw [en d hd q]; simp
  · rw [List.length_singleton] at hk
    rw [show j = 0 by omega, show k = 0 by omega]
    omega
  · rw [List.length_singleton] at hj
    rw [show j = 0 by omega]
    show f s0 ≤ _
    rw [ez]; omega
  · rw [hf _ hd]; split <;> omega
theorem BJ.skip (h : BJ col slt s0 i L f P v) (hd : d < 36) (hk : f d ≠ -1 ∨ col d) : BJ col slt s0 i L f (fun e => P e ∨ e = d) v :=
  ⟨h.nd, h.lt, h.z, h.kn, h.sl, h.snd, h.op, h.mono, h.idx, h.up, h.pr, h.cv, h.vb, fun e he hc => by
      rcases he with he | rfl
      · exact h.cu e he hc
      · rcases hk with hk | hk
        · exact ⟨hk, h.up _ hd⟩
        · exact absurd hk hc⟩
theorem BJ.new (h : BJ col slt s0 i L f P v) (hi : i < L.length) (hd : d < 36) (ha : adj (pg L i) d) (hk : f d = -1) (hc : ¬ col d) : (slt d → BJ col slt s0 i L (fup f d (v + 1)) (fun e => P e ∨ e = d) v) ∧ (¬ slt d → BJ col slt s0 i (L ++ [d]) (fup f d (v + 1)) (fun e => P e ∨ e = d) v ∧ L.length < 36) := by
  have hdL : d ∉ L := fun q => h.kn d q hk
  have hdv := h.cv hi
  have hci : pg L i ∈ L := pg_mem hi
  have hci6 := h.lt _ hci
  have hv0 : 0 ≤ v := by rw [← hdv]; exact (h.snd _ hci6 (h.kn _ hci)).1
  have e1 : fup f d (v + 1) d = v + 1 := by simp [fup]
  have e2 : ∀ e, e ≠ d → fup f d (v + 1) e = f e := fun e q => by simp [fup, q]
  have e3 : ∀ c ∈ L, fup f d (v + 1) c = f c := fun c q => e2 c (fun z => hdL (z ▸ q))
  have e4 : ∀ j, j < L.length → fup f d (v + 1) (pg L j) = f (pg L j) := fun j q => e3 _ (pg_mem q)
  have ez : d ≠ s0 := fun q => by rw [q, h.z] at hk; omega
  have hsnd : ∀ e, e < 36 → fup f d (v + 1) e ≠ -1 → 0 ≤ fup f d (v + 1) e ∧ rch col slt s0 (fup f d (v + 1) e).toNat e := fun e he q => by
    by_cases z : e = d
    · subst z
      rw [e1]
      refine ⟨by omega, ?_⟩
      have w := (h.snd _ hci6 (h.kn _ hci)).2
      rw [hdv] at w
      rw [show (v + 1).toNat = v.toNat + 1 by omega]
      exact ⟨pg L i, w, h.sl _ hci, ha, hc⟩
    · rw [e2 _ z] at q ⊢
      exact h.snd e he q
  have hup : ∀ e, e < 36 → fup f d (v + 1) e ≤ v + 1 := fun e he => by
    by_cases z : e = d
    · subst z; rw [e1]; omega
    · rw [e2 _ z]; exact h.up e he
  have hcu : ∀ e, (P e ∨ e = d) → ¬ col e → fup f d (v + 1) e ≠ -1 ∧ fup f d (v + 1) e ≤ v + 1 := fun e he hce => by
    by_cases z : e = d
    · subst z; rw [e1]; omega
    · rw [e2 _ z]; exact h.cu e (he.resolve_right z) hce
  have hpr : ∀ j, j < L.length → j < i → ∀ e, adj (pg L j) e → ¬ col e → fup f d (v + 1) e ≠ -1 ∧ fup f d (v + 1) e ≤ f (pg L j) + 1 := fun j hj hji e he hce => by
    have w := h.pr j hj hji e he hce
    have z : e ≠ d := fun z => w.1 (z ▸ hk)
    rw [e2 _ z]
    exact w
  refine ⟨fun hs => ⟨h.nd, h.lt, by rw [e2 _ (Ne.symm ez)]; exact h.z, fun c q => by rw [e3 c q]; exact h.kn c q, h.sl, hsnd, fun e he q w => ?_, fun j k hjk hkl => ?_, fun j hj => by rw [e4 j hj]; exact h.idx j hj, hup, fun j hj hji e => by rw [e4 j hj]; exact hpr j hj hji e, fun q => by rw [e4 i q]; exact h.cv q, h.vb, hcu⟩, fun hs => ?_⟩
  · have z : e ≠ d := fun z => by
      subst z
      exact w.elim ez (fun w => w hs)
    rw [e2 _ z] at q
    exact h.op e he q w
  · rw [e4 j (by omega), e4 k hkl]; exact h.mono j k hjk hkl
  · have hnd : (L ++ [d]).Nodup := List.nodup_append.mpr ⟨h.nd, by simp, fun a ha b hb => by rw [List.mem_singleton.mp hb]; exact fun z => hdL (z ▸ ha)⟩
    have hlt : ∀ c ∈ L ++ [d], c < 36 := fun c q => by
      rcases List.mem_append.mp q with q | q
      · exact h.lt c q
      · rw [List.mem_singleton.mp q]; exact hd
    have hl := nd_len hnd hlt
    rw [List.length_append, List.length_singleton] at hl
    have hll : (L ++ [d]).length = L.length + 1 := by rw [List.length_append, List.length_singleton]
    have hle : ∀ j, j < L.length → f (pg L j) ≤ v + 1 := fun j hj => h.up _ (h.lt _ (pg_mem hj))
    refine ⟨⟨hnd, hlt, by rw [e2 _ (Ne.symm ez)]; exact h.z, fun c q => ?_, fun c q => ?_, hsnd, fun e he q w => ?_, fun j k hjk hkl => ?_, fun j hj => ?_, hup, fun j hj hji e => ?_, fun q => by rw [pg_app hi, e4 i hi]; exact h.cv hi, h.vb, hcu⟩, by omega⟩
    · rcases List.mem_append.mp q with q | q
      · rw [e3 c q]; exact h.kn c q
      · rw [List.mem_singleton.mp q, e1]; omega
    · rcases List.mem_append.mp q with q | q
      · exact h.sl c q
      · rw [List.mem_singleton.mp q]; exact Or.inr hs
    · by_cases z : e = d
      · subst z; simp
      · rw [e2 _ z] at q
        exact List.mem_append_left _ (h.op e he q w)
    · rw [hll] at hkl
      by_cases z : k = L.length
      · subst z
        rw [pg_last, e1]
        by_cases z2 : j = L.length
        · subst z2; rw [pg_last, e1]; omega
        · rw [pg_app (by omega), e4 j (by omega)]
          exact hle j (by omega)
      · rw [pg_app (by omega), pg_app (by omega), e4 j (by omega), e4 k (by omega)]
        exact h.mono j k hjk (by omega)
    · rw [hll] at hj
      by_cases z : j = L.length
      · subst z
        rw [pg_last, e1]
        have := h.idx i hi
        omega
      · rw [pg_app (by omega), e4 j (by omega)]; exact h.idx j (by omega)
    · rw [pg_app (by omega), e4 j (by omega)]; exact hpr j (by omega) hji e
theorem BJ.next (h : BJ col slt s0 i L f P v) (hi : i < L.length) (hP : ∀ d, adj (pg L i) d → P d) : ∃ w, BJ col slt s0 (i + 1) L f (fun _ => False) w := by
  have hpr : ∀ j, j < L.length → j < i + 1 → ∀ d, adj (pg L j) d → ¬ col d → f d ≠ -1 ∧ f d ≤ f (pg L j) + 1 := fun j hj hji d hd hc => by
    by_cases z : j = i
    · subst z
      rw [h.cv hi]
      exact h.cu d (hP d hd) hc
    · exact h.pr j hj (by omega) d hd hc
  by_cases q : i + 1 < L.length
  · refine ⟨f (pg L (i + 1)), ⟨h.nd, h.lt, h.z, h.kn, h.sl, h.snd, h.op, h.mono, h.idx, fun d hd => ?_, hpr, fun _ => rfl, ?_, fun d h => h.elim⟩⟩
    · have h1 := h.mono i (i + 1) (by omega) q
      rw [h.cv hi] at h1
      have h2 := h.up d hd
      omega
    · have h1 := h.idx (i + 1) q
      have h2 := nd_len h.nd h.lt
      omega
  · exact ⟨v, ⟨h.nd, h.lt, h.z, h.kn, h.sl, h.snd, h.op, h.mono, h.idx, h.up, hpr, fun w => absurd w q, h.vb, fun d h => h.elim⟩⟩
theorem BJ.fin (h : BJ col slt s0 i L f P v) (h0 : s0 < 36) (hi : L.length ≤ i) : IsD col slt s0 f := by
  have key : ∀ m d, rch col slt s0 m d → f d ≠ -1 ∧ f d ≤ m := by
    intro m
    induction m with
    | zero =>
      intro d hd
      have e : d = s0 := hd
      rw [e, h.z]; omega
    | succ m ih =>
      intro d hd
      obtain ⟨c, q1, q2, q3, q4⟩ := hd
      have h1 := ih c q1
      obtain ⟨j, hj, e⟩ := mem_pg (h.op c (rch_lt h0 q1) h1.1 q2)
      have h2 := h.pr j hj (by omega) d (by rw [e]; exact q3) q4
      rw [e] at h2
      omega
  intro d hd
  by_cases q : f d = -1
  · exact Or.inl ⟨q, fun n w => (key n d w).1 q⟩
  · obtain ⟨h1, h2⟩ := h.snd d hd q
    refine Or.inr ⟨(f d).toNat, by omega, ?_, h2, fun m hm w => ?_⟩
    · have := h.up d hd
      have := h.vb
      omega
    · have := (key m d w).2
      omega
theorem BJ.cell (h : BJ col slt s0 i L f P v) (hi : i < L.length) : pg L i < 36 ∧ 0 ≤ v := by
  have h1 := h.lt _ (pg_mem hi)
  exact ⟨h1, by rw [← h.cv hi]; exact (h.snd _ h1 (h.kn _ (pg_mem hi))).1⟩
end
