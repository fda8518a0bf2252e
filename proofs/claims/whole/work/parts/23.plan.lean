/-! ===== plans: what is best ===== -/
/-- the first of the least: its value and its places -/
def fmS (f : List Nat → Option Int) (acc : Option (Int × List Nat)) (p : List Nat) : Option (Int × List Nat) := match f p with
  | none => acc
  | some v => match acc with
    | none => some (v, p)
    | some a => if v < a.1 then some (v, p) else some a
def fmin (f : List Nat → Option Int) (E : List (List Nat)) : Option (Int × List Nat) := E.foldl (fmS f) none
theorem fmS_foldl {f : List Nat → Option Int} : ∀ (E : List (List Nat)) (acc : Option (Int × List Nat)),
    (E.foldl (fmS f) acc = none → acc = none ∧ ∀ p ∈ E, f p = none) ∧
    (∀ v q, E.foldl (fmS f) acc = some (v, q) → (acc = some (v, q) ∨ (q ∈ E ∧ f q = some v)) ∧ (∀ p ∈ E, ∀ u, f p = some u → v ≤ u) ∧ ∀ a, acc = some a → v ≤ a.1)
  | [], acc => ⟨fun h => ⟨h, by simp⟩, fun v q h => ⟨Or.inl h, by simp, fun a ha => by rw [List.foldl_nil] at h; rw [h] at ha; cases ha; exact Int.le_refl _⟩⟩
  | p :: E, acc => by
    obtain ⟨ih1, ih2⟩ := fmS_foldl (f := f) E (fmS f acc p)
    rw [List.foldl_cons]
    constructor
    · intro h
      obtain ⟨h1, h2⟩ := ih1 h
      unfold fmS at h1
      cases e : f p with
      | none =>
        rw [e] at h1
        exact ⟨h1, List.forall_mem_cons.mpr ⟨e, h2⟩⟩
      | some v =>
        rw [e] at h1
        cases acc with
        | none => cases h1
        | some a =>
          dsimp only at h1
          split at h1 <;> cases h1
    · intro v q h
      obtain ⟨h1, h2, h3⟩ := ih2 v q h
      cases e : f p with
      | none =>
        have ea : fmS f acc p = acc := by unfold fmS; rw [e]
        rw [ea] at h1 h3
        refine ⟨h1.imp id (fun z => ⟨List.mem_cons_of_mem _ z.1, z.2⟩), List.forall_mem_cons.mpr ⟨fun u hu => (by rw [e] at hu; cases hu), h2⟩, h3⟩
      | some x =>
        cases acc with
        | none =>
          have ea : fmS f none p = some (x, p) := by unfold fmS; rw [e]
          rw [ea] at h1 h3
          have h4 := h3 _ rfl
          refine ⟨Or.inr ?_, List.forall_mem_cons.mpr ⟨fun u hu => by rw [e] at hu; cases hu; exact h4, h2⟩, fun a ha => by cases ha⟩
          rcases h1 with h1 | h1
          · cases h1
            exact ⟨List.mem_cons_self, e⟩
          · exact ⟨List.mem_cons_of_mem _ h1.1, h1.2⟩
        | some a =>
          by_cases hx : x < a.1
          · have ea : fmS f (some a) p = some (x, p) := by unfold fmS; rw [e]; show (if x < a.1 then _ else _) = _; rw [if_pos hx]
            rw [ea] at h1 h3
            have h4 : v ≤ x := h3 _ rfl
            refine ⟨Or.inr ?_, List.forall_mem_cons.mpr ⟨fun u hu => by rw [e] at hu; cases hu; exact h4, h2⟩, fun b hb => by cases hb; omega⟩
            rcases h1 with h1 | h1
            · cases h1
              exact ⟨List.mem_cons_self, e⟩
            · exact ⟨List.mem_cons_of_mem _ h1.1, h1.2⟩
          · have ea : fmS f (some a) p = some a := by unfold fmS; rw [e]; show (if x < a.1 then _ else _) = _; rw [if_neg hx]
            rw [ea] at h1 h3
            have h4 := h3 a rfl
            exact ⟨h1.imp id (fun z => ⟨List.mem_cons_of_mem _ z.1, z.2⟩), List.forall_mem_cons.mpr ⟨fun u hu => by rw [e] at hu; cases hu; omega, h2⟩, h3⟩
theorem fmin_none {f : List Nat → Option Int} {E : List (List Nat)} (h : fmin f E = none) : ∀ p ∈ E, f p = none := ((fmS_foldl E none).1 h).2
theorem fmin_some {f : List Nat → Option Int} {E : List (List Nat)} {v : Int} {q : List Nat} (h : fmin f E = some (v, q)) : q ∈ E ∧ f q = some v ∧ ∀ p ∈ E, ∀ u, f p = some u → v ≤ u := by
  obtain ⟨h1, h2, -⟩ := (fmS_foldl E none).2 v q h
  rcases h1 with h1 | h1
  · cases h1
  · exact ⟨h1.1, h1.2, h2⟩
theorem fmin_ex {f : List Nat → Option Int} {E : List (List Nat)} {p : List Nat} {u : Int} (hp : p ∈ E) (hu : f p = some u) : ∃ v q, fmin f E = some (v, q) := by
  cases e : fmin f E with
  | none => have := fmin_none e p hp; rw [this] at hu; cases hu
  | some a => exact ⟨a.1, a.2, rfl⟩
def pE (D : Dt) : List (List Nat) := enumN (dm D) (dn D)
/-- the least that k + 1 years from y on cost, with these places in year y -/
noncomputable def bv (D : Dt) : Nat → Nat → List Nat → Option Int
  | 0, y, p => if cost D y p = -1 then none else some (cost D y p)
  | k + 1, y, p => if cost D y p = -1 then none else match fmin (fun q => (bv D k (y + 1) q).map (· + mvL (dV D) p q)) (pE D) with
    | none => none
    | some a => some (cost D y p + a.1)
def enc : Option Int → Int
  | none => 268435456
  | some v => v
theorem pE_ok {D : Dt} {p : List Nat} (h : p ∈ pE D) : p.length = dm D ∧ okP (dn D) p := enumN_mem h
theorem pE_dl {D : Dt} (hw : WF D) {p : List Nat} (h : p ∈ pE D) : dl (dm D) p := by
  have := pE_ok h
  have hn := hw.1
  exact ⟨this.1, fun s hs => by have := this.2.1 s hs; omega⟩
theorem cost_bd {D : Dt} (hw : WF D) {y : Nat} {p : List Nat} (hy : y < 4) (hl : p.length = dm D) (hs : ∀ s ∈ p, s < dn D) : cost D y p = -1 ∨ (0 ≤ cost D y p ∧ cost D y p ≤ 89100) := by
  by_cases h : right D y p
  · rw [cost_yes h]
    right
    have hm := hw.2.1
    have h1 : ∀ a b, a < dm D → b < dm D → 0 ≤ ld D y a b * wy D p a b ∧ ld D y a b * wy D p a b ≤ 3564 := fun a b ha hb => by
      have l1 := ld_bd hw hy ha hb
      have w1 := wy_bd hw hl hs ha hb
      rcases Int.lt_or_le 0 (ld D y a b) with q | q
      · have := h.2.2 a b ha hb q
        have q1 : ld D y a b * wy D p a b ≤ ld D y a b * 36 := Int.mul_le_mul_of_nonneg_left w1.2 l1.1
        exact ⟨Int.mul_nonneg l1.1 (by omega), by omega⟩
      · have : ld D y a b = 0 := by omega
        rw [this, Int.zero_mul]
        omega
    have h2 : ∀ a, a < dm D → 0 ≤ sumF (fun b => ld D y a b * wy D p a b) (dm D) ∧ sumF (fun b => ld D y a b * wy D p a b) (dm D) ≤ 17820 := fun a ha => by
      have := sumF_bd (f := fun b => ld D y a b * wy D p a b) (c := 3564) (n := dm D) (fun b hb => h1 a b ha hb)
      omega
    have h3 := sumF_bd (f := fun a => sumF (fun b => ld D y a b * wy D p a b) (dm D)) (c := 17820) (n := dm D) h2
    unfold csum
    omega
  · exact Or.inl (cost_no h)
theorem mvL_bdD {D : Dt} (hw : WF D) {p q : List Nat} (hl : p.length = dm D) : 0 ≤ mvL (dV D) p q ∧ mvL (dV D) p q ≤ 250 := by
  have hm := hw.2.1
  have := mvL_bd (w := dV D) (p := p) (q := q) (fun i hi => hw.2.2.2.2.2.2.2.2.1 i (by omega))
  omega
theorem bv_bd {D : Dt} (hw : WF D) : ∀ (k y : Nat) (p : List Nat) (v : Int), y + k < 4 → p ∈ pE D → bv D k y p = some v → 0 ≤ v ∧ v ≤ (k + 1) * 90000
  | 0, y, p, v, hy, hp, h => by
    have hk := pE_ok hp
    have hc := cost_bd hw (y := y) (by omega) hk.1 hk.2.1
    unfold bv at h
    split at h
    · cases h
    · cases h
      omega
  | k + 1, y, p, v, hy, hp, h => by
    have hk := pE_ok hp
    have hc := cost_bd hw (y := y) (by omega) hk.1 hk.2.1
    unfold bv at h
    split at h
    · cases h
    · cases e : fmin (fun q => (bv D k (y + 1) q).map (· + mvL (dV D) p q)) (pE D) with
      | none => rw [e] at h; cases h
      | some a =>
        rw [e] at h
        cases h
        obtain ⟨h1, h2, -⟩ := fmin_some (v := a.1) (q := a.2) e
        have h3 := mvL_bdD hw (p := p) (q := a.2) hk.1
        cases e2 : bv D k (y + 1) a.2 with
        | none => rw [e2] at h2; cases h2
        | some u =>
          rw [e2] at h2
          have h4 := bv_bd hw k (y + 1) a.2 u (by omega) h1 e2
          have h5 : u + mvL (dV D) p a.2 = a.1 := Option.some.inj h2
          have h6 : ((k : Int) + 1 + 1) * 90000 = ((k : Int) + 1) * 90000 + 90000 := by rw [Int.add_mul]; omega
          rw [Int.natCast_succ, h6]
          omega
theorem bv_enc {D : Dt} (hw : WF D) {k y : Nat} {p : List Nat} (hy : y + k < 4) (hp : p ∈ pE D) : (bv D k y p = none ∧ enc (bv D k y p) = 268435456) ∨ ∃ v, bv D k y p = some v ∧ enc (bv D k y p) = v ∧ 0 ≤ v ∧ v ≤ 360000 := by
  cases e : bv D k y p with
  | none => exact Or.inl ⟨rfl, rfl⟩
  | some v =>
    have := bv_bd hw k y p v hy hp e
    exact Or.inr ⟨v, rfl, rfl, this.1, by
      have : ((k : Int) + 1) * 90000 ≤ 4 * 90000 := Int.mul_le_mul_of_nonneg_right (by omega) (by decide)
      omega⟩
/-- the best plan's places, year by year -/
noncomputable def chn (D : Dt) (n : Nat) : Nat → Option (List Nat)
  | 0 => (fmin (bv D (n - 1) 0) (pE D)).map (·.2)
  | y + 1 => match chn D n y with
    | none => none
    | some prev => (fmin (fun q => (bv D (n - 2 - y) (y + 1) q).map (· + mvL (dV D) prev q)) (pE D)).map (·.2)
noncomputable def planP (D : Dt) (n : Nat) : Option Int := (fmin (bv D (n - 1) 0) (pE D)).map (·.1)
noncomputable def pldV (D : Dt) (n y : Nat) : Int := match chn D n y with
  | some c => tld c
  | none => -1
/-- on the way: the places are a plan's, so it goes on -/
theorem chn_ok {D : Dt} {n : Nat} (hp : planP D n ≠ none) : ∀ y, y < n → ∃ c v, chn D n y = some c ∧ c ∈ pE D ∧ bv D (n - 1 - y) y c = some v
  | 0, _ => by
    unfold planP at hp
    cases e : fmin (bv D (n - 1) 0) (pE D) with
    | none => rw [e] at hp; exact absurd rfl hp
    | some a =>
      obtain ⟨h1, h2, -⟩ := fmin_some (v := a.1) (q := a.2) e
      refine ⟨a.2, a.1, ?_, h1, h2⟩
      unfold chn
      rw [e]
      rfl
  | y + 1, hy => by
    obtain ⟨c, v, h1, h2, h3⟩ := chn_ok hp y (by omega)
    rw [show n - 1 - y = (n - 2 - y) + 1 by omega] at h3
    unfold bv at h3
    split at h3
    · cases h3
    · cases e : fmin (fun q => (bv D (n - 2 - y) (y + 1) q).map (· + mvL (dV D) c q)) (pE D) with
      | none => rw [e] at h3; cases h3
      | some a =>
        obtain ⟨g1, g2, -⟩ := fmin_some (v := a.1) (q := a.2) e
        cases e2 : bv D (n - 2 - y) (y + 1) a.2 with
        | none => rw [e2] at g2; cases g2
        | some u =>
          refine ⟨a.2, u, ?_, g1, by rw [show n - 1 - (y + 1) = n - 2 - y by omega]; exact e2⟩
          unfold chn
          rw [h1]
          show (fmin (fun q => (bv D (n - 2 - y) (y + 1) q).map (· + mvL (dV D) c q)) (pE D)).map (·.2) = some a.2
          rw [e]
          rfl
/-- what the moves come to, at places -/
theorem alF_lat {D : Dt} (hw : WF D) {k y : Nat} {f : Nat → Int} (hy : y + k < 4) (hf : ∀ q, dl (dm D) q → f (tn q) = if q ∈ pE D then enc (bv D k y q) else 268435456) {p : List Nat} (hp : p ∈ pE D) : alF (dV D) (dm D) f (dm D) (tn p) = enc ((fmin (fun q => (bv D k y q).map (· + mvL (dV D) p q)) (pE D)).map (·.1)) := by
  have hm := hw.2.1
  have hd := pE_dl hw hp
  have hfb : ∀ q, dl (dm D) q → f (tn q) ≤ 268435456 := fun q hq => by
    rw [hf q hq]
    split
    · rename_i hq2
      rcases bv_enc hw hy hq2 with ⟨-, h⟩ | ⟨v, -, h, h1, h2⟩ <;> omega
    · exact Int.le_refl _
  obtain ⟨h1, h2, q, hq, -, h3⟩ := alF_spec (w := dV D) (f := f) hm (fun i hi => (hw.2.2.2.2.2.2.2.2.1 i hi).1) hfb (dm D) (Nat.le_refl _) p hd
  have hmv : ∀ q, mvN (dV D) p q (dm D) = mvL (dV D) p q := fun q => by unfold mvN mvL; rw [hd.1]
  rw [hmv] at h3
  have hb := mvL_bdD hw (p := p) (q := q) hd.1
  have h5 : ∀ (q : List Nat) (j : Nat), dl (dm D) q → dm D ≤ j → pg p j = pg q j := fun q j hq hj => by
    unfold pg
    simp only [List.getD]
    rw [List.getElem?_eq_none (by rw [hd.1]; exact hj), List.getElem?_eq_none (by rw [hq.1]; exact hj)]
  cases e : fmin (fun q => (bv D k y q).map (· + mvL (dV D) p q)) (pE D) with
  | none =>
    have hn := fmin_none e
    have : f (tn q) = 268435456 := by
      rw [hf q hq]
      split
      · rename_i hq2
        have := hn q hq2
        cases e2 : bv D k y q with
        | none => rfl
        | some u => rw [e2] at this; cases this
      · rfl
    show _ = (268435456 : Int)
    omega
  | some a =>
    obtain ⟨g1, g2, g3⟩ := fmin_some (v := a.1) (q := a.2) e
    show _ = a.1
    cases e2 : bv D k y a.2 with
    | none => rw [e2] at g2; cases g2
    | some u =>
      rw [e2] at g2
      have g4 : u + mvL (dV D) p a.2 = a.1 := Option.some.inj g2
      have hda := pE_dl hw g1
      have g5 := h2 a.2 hda (fun j hj => h5 a.2 j hda hj)
      rw [hmv, hf a.2 hda, if_pos g1, e2] at g5
      have g6 : alF (dV D) (dm D) f (dm D) (tn p) ≤ u + mvL (dV D) p a.2 := g5
      have g7 := mvL_bdD hw (p := p) (q := a.2) hd.1
      rcases bv_enc hw hy g1 with ⟨z, -⟩ | ⟨u2, z1, -, z3, z4⟩
      · rw [z] at e2; cases e2
      · rw [e2] at z1
        cases z1
        by_cases hqE : q ∈ pE D
        · rw [hf q hq, if_pos hqE] at h3
          rcases bv_enc hw hy hqE with ⟨-, y2⟩ | ⟨u3, y1, y2, -, -⟩
          · omega
          · have := g3 q hqE (u3 + mvL (dV D) p q) (by rw [y1]; rfl)
            omega
        · rw [hf q hq, if_neg hqE] at h3
          omega
