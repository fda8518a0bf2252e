/-! ===== the reference: changes, climbing ===== -/
theorem pg_inj {p : List Nat} (hn : p.Nodup) {i j : Nat} (hi : i < p.length) (hj : j < p.length) (e : pg p i = pg p j) : i = j := by
  rw [pg_eq hi, pg_eq hj] at e
  have hw := List.pairwise_iff_getElem.mp (List.nodup_iff_pairwise_ne.mp hn)
  rcases Nat.lt_trichotomy i j with q | q | q
  · exact absurd e (hw i j hi hj q)
  · exact q
  · exact absurd e.symm (hw j i hj hi q)
def fcO (Z : Zt) (o : Option (List Nat)) (x : Int) : Prop := (o = none ∧ x = -1) ∨ ∃ r, o = some r ∧ x = nm r ∧ r.length = dm (zD Z) ∧ okP (dn (zD Z)) r
def fcM (Z : Zt) (st : Int × Option (List Nat)) (σ : Mem) : Prop := ((st.1 = -1 ∧ σ 73 23 = 100000000) ∨ (0 ≤ st.1 ∧ st.1 ≤ 89100 ∧ σ 73 23 = st.1)) ∧ fcO Z st.2 (σ 73 24)
theorem c_X11_look {Z : Zt} {σ : Mem} {p : List Nat} {y : Nat} {x1 : Int} {st : Int × Option (List Nat)} (hZ : GZ Z) (hM : MI Z σ) (hL : ML Z σ) (hl : p.length = dm (zD Z)) (hok : okP (dn (zD Z)) p) (hp : hld σ 88 p) (hy : y < 4) (e1 : x1 = y) (hst : fcM Z st σ) : CM mX11_look [.inr 73, .inl x1] σ (fun _ σ1 => fcM Z (cst (cost (zD Z) y) st p) σ1 ∧ MSm [] σ σ1) := by
  have hcb := cM_bd hZ (y := y) hy hl hok.1
  have h6 := okP.s6 hZ hok
  refine rX11_look_0 (CM.mono (fun v σ1 hq => ?_) (c_X11_costOf (y := y) hZ hM hL hl hok.1 hp hy e1))
  obtain ⟨rfl, rfl⟩ := hq
  refine CM.mono (fun v σ2 hq => ?_) (c_X11_numberOf hZ hM hl h6 hp)
  obtain ⟨rfl, rfl⟩ := hq
  have keep : cst (cost (zD Z) y) st p = st → fcM Z (cst (cost (zD Z) y) st p) σ2 ∧ MSm [] σ2 σ2 := fun e => by rw [e]; exact ⟨hst, MSm.rf⟩
  have new : cst (cost (zD Z) y) st p = (cost (zD Z) y p, some p) → cost (zD Z) y p ≠ -1 → fcM Z (cst (cost (zD Z) y) st p) (mu (mu σ2 73 23 (cM (zD Z) y p)) 73 24 (nm p)) ∧ MSm [] σ2 (mu (mu σ2 73 23 (cM (zD Z) y p)) 73 24 (nm p)) := fun e hne => by
    rw [e]
    refine ⟨⟨Or.inr ⟨?_, ?_, ?_⟩, Or.inr ⟨p, rfl, by rw [mu_at, if_pos rfl], hl, hok⟩⟩, (MSm.up73 (by omega)).tr (MSm.up73 (by omega))⟩
    · show 0 ≤ cost (zD Z) y p; omega
    · show cost (zD Z) y p ≤ 89100; omega
    · rw [mu_atn (by decide), mu_at, if_pos rfl]
      show cM (zD Z) y p = cost (zD Z) y p; omega
  obtain ⟨s1, s2⟩ := hst
  unfold cst at keep new ⊢
  generalize cost (zD Z) y p = c at *
  generalize cM (zD Z) y p = cm at *
  obtain ⟨a, o⟩ := st
  change ((a = -1 ∧ σ2 73 23 = 100000000) ∨ (0 ≤ a ∧ a ≤ 89100 ∧ σ2 73 23 = a)) at s1
  refine ⟨fun g => ?_, fun g => ⟨fun g2 => ?_, fun g2 => ⟨fun g3 => ?_, fun g3 => ⟨fun g4 => ?_, fun g4 => ⟨fun g5 => ?_, fun g5 => ?_⟩⟩⟩⟩⟩
  · exact new (by rw [if_neg (by omega), if_pos (by omega)]) (by omega)
  · refine keep ?_
    by_cases z : c = -1
    · rw [if_pos z]
    · rw [if_neg z, if_neg (by omega)]
      cases o with
      | none => rfl
      | some r =>
        show (if c = a ∧ lexlt p r = true then (c, some p) else (a, some r)) = (a, some r)
        rw [if_neg (fun w => by omega)]
  · exact keep (by rw [if_pos (by omega)])
  · refine keep ?_
    rw [if_neg (by omega), if_neg (by omega)]
    rcases s2 with ⟨z, -⟩ | ⟨r, -, z, -⟩
    · change o = none at z
      subst z
      rfl
    · omega
  · refine keep ?_
    rw [if_neg (by omega), if_neg (by omega)]
    rcases s2 with ⟨z, z2⟩ | ⟨r, z, z2, z3, z4⟩
    · omega
    · change o = some r at z
      subst z
      show (if c = a ∧ lexlt p r = true then (c, some p) else (a, some r)) = (a, some r)
      rw [if_neg (fun w => ?_)]
      have := (nm_lex p r (by omega) h6 (okP.s6 hZ z4)).mp w.2
      omega
  · refine new ?_ (by omega)
    rw [if_neg (by omega), if_neg (by omega)]
    rcases s2 with ⟨z, z2⟩ | ⟨r, z, z2, z3, z4⟩
    · omega
    · change o = some r at z
      subst z
      show (if c = a ∧ lexlt p r = true then (c, some p) else (a, some r)) = (c, some p)
      rw [if_pos ⟨by omega, (nm_lex p r (by omega) h6 (okP.s6 hZ z4)).mpr (by omega)⟩]
theorem fcM.same {Z : Zt} {st : Int × Option (List Nat)} {S : List Nat} {σ σ1 : Mem} (h : fcM Z st σ) (hS : Same S σ σ1) (hn : 73 ∉ S) : fcM Z st σ1 := by
  unfold fcM at h ⊢
  rw [hS 73 hn]
  exact h
theorem c_X11_findChange {Z : Zt} {σ : Mem} {y : Nat} {x1 : Int} (hZ : GZ Z) (hM : MI Z σ) (hL : ML Z σ) (hy : y < 4) (e1 : x1 = y) : CM mX11_findChange [.inr 73, .inl x1] σ (fun _ σ1 => fcM Z (fcS (cost (zD Z) y) (dn (zD Z)) (zh Z)) σ1 ∧ MSm [88] σ σ1) := by
  subst e1
  have h5 := hZ.m5
  have hn6 := hZ.n6
  have hl := hZ.len
  have hok := hZ.ok
  have h6 := okP.s6 hZ hok
  have MLm : ∀ {S : List Nat} {a b : Mem}, ML Z a → MSm S a b → 86 ∉ S → 87 ∉ S → ML Z b := fun h hS h1 h2 => h.same hS.1 (by simp [h1]) (by simp [h2])
  have outer : ∀ (d a : Nat) (st : Int × Option (List Nat)) (σ0 : Mem), a + d = dm (zD Z) → fcM Z st σ0 → MSm [88] σ σ0 → chB (cost (zD Z) y) (zh Z) (dn (zD Z)) a d st = fcS (cost (zD Z) y) (dn (zD Z)) (zh Z) → GO none mX11_findChange 20 [some (.inr 73), some (.inl (y : Int)), some (.inl (a : Int)), none, none, none] [] σ0 (fun _ σ1 => fcM Z (fcS (cost (zD Z) y) (dn (zD Z)) (zh Z)) σ1 ∧ MSm [88] σ σ1) := by
    intro d
    induction d with
    | zero =>
      intro a st σ0 hd hst hS he
      have hm := (hM.same hS (by decide)).m
      refine rX11_findChange_20 ⟨fun _ => ⟨?_, hS⟩, fun h => by omega⟩
      rw [← he]
      exact hst
    | succ d ih =>
      intro a st σ0 hd hst hS he
      have hm := (hM.same hS (by decide)).m
      refine rX11_findChange_20 ⟨fun h => by omega, fun _ => ?_⟩
      have inner : ∀ (e s : Nat) (st : Int × Option (List Nat)) (σ0 : Mem), s + e = dn (zD Z) → fcM Z st σ0 → MSm [88] σ σ0 → chB (cost (zD Z) y) (zh Z) (dn (zD Z)) (a + 1) d (chA (cost (zD Z) y) (zh Z) a s e st) = fcS (cost (zD Z) y) (dn (zD Z)) (zh Z) → GO none mX11_findChange 30 [some (.inr 73), some (.inl (y : Int)), some (.inl (a : Int)), some (.inl (s : Int)), none, none] [] σ0 (fun _ σ1 => fcM Z (fcS (cost (zD Z) y) (dn (zD Z)) (zh Z)) σ1 ∧ MSm [88] σ σ1) := by
        intro e
        induction e with
        | zero =>
          intro s st σ0 hs hst hS he
          have hn := (hM.same hS (by decide)).n
          exact rX11_findChange_30 ⟨fun _ => ⟨by omega, ih (a + 1) st σ0 (by omega) hst hS he⟩, fun h => by omega⟩
        | succ e ihe =>
          intro s st σ0 hs hst hS he
          have hM0 := hM.same hS (by decide)
          have hn := hM0.n
          have hL0 := MLm hL hS (by decide) (by decide)
          refine rX11_findChange_30 ⟨fun h => by omega, fun _ => CM.mono (fun _ σ1 hq => ?_) (c_X11_takeNow hZ hM0)⟩
          obtain ⟨hh, hS1⟩ := hq
          have hst1 := hst.same hS1 (by decide)
          have hSS1 : MSm [88] σ σ1 := hS.tr (MSm.same hS1 (by decide))
          have hM1 := hM.same hSS1 (by decide)
          have hL1 := MLm hL hSS1 (by decide) (by decide)
          have hm1 := hM1.m
          have ha : a < (zh Z).length := by omega
          have next : ∀ σ2, fcM Z (cstO (cost (zD Z) y) st (chg (zh Z) a s)) σ2 → MSm [88] σ σ2 → GO none mX11_findChange 30 [some (.inr 73), some (.inl (y : Int)), some (.inl (a : Int)), some (.inl ((s : Int) + 1)), none, none] [] σ2 (fun _ σ1 => fcM Z (fcS (cost (zD Z) y) (dn (zD Z)) (zh Z)) σ1 ∧ MSm [88] σ σ1) := fun σ2 g1 g2 => ihe (s + 1) _ σ2 (by omega) g1 g2 he
          have try1 : ∀ (q : List Nat) (σ2 : Mem), chg (zh Z) a s = some q → hld σ2 88 q → Same [88] σ1 σ2 → CM mX11_look [.inr 73, .inl (y : Int)] σ2 (fun _ σ8 => inR ((s : Int) + 1) ∧ GO none mX11_findChange 30 [some (.inr 73), some (.inl (y : Int)), some (.inl (a : Int)), some (.inl ((s : Int) + 1)), none, none] [] σ8 (fun _ σ1 => fcM Z (fcS (cost (zD Z) y) (dn (zD Z)) (zh Z)) σ1 ∧ MSm [88] σ σ1)) := fun q σ2 hq hh2 hS2 => by
            have hSS2 : MSm [88] σ σ2 := hSS1.tr (MSm.same hS2 (by decide))
            have hqo := chg_okP hok ha (by omega) hq
            refine CM.mono (fun _ σ3 h3 => ?_) (c_X11_look (p := q) (y := y) (st := st) hZ (hM.same hSS2 (by decide)) (MLm hL hSS2 (by decide) (by decide)) (by omega) hqo.2 hh2 hy rfl (hst1.same hS2 (by decide)))
            refine ⟨by omega, next σ3 ?_ (hSS2.tr (h3.2.wk (by decide)))⟩
            rw [hq]
            exact h3.1
          have seek : ∀ (f b : Nat) (x4 : Int), b + f = dm (zD Z) → ((x4 = -1 ∧ ∀ j, j < b → pg (zh Z) j ≠ s) ∨ (∃ j : Nat, x4 = j ∧ j < b ∧ pg (zh Z) j = s)) → GO none mX11_findChange 48 [some (.inr 73), some (.inl (y : Int)), some (.inl (a : Int)), some (.inl (s : Int)), some (.inl x4), some (.inl (b : Int))] [] σ1 (fun _ σ1 => fcM Z (fcS (cost (zD Z) y) (dn (zD Z)) (zh Z)) σ1 ∧ MSm [88] σ σ1) := by
            intro f
            induction f with
            | zero =>
              intro b x4 hb hx
              refine rX11_findChange_48 ⟨fun _ => ⟨fun h4 => ⟨by omega, next σ1 ?_ hSS1⟩, fun h4 => ⟨fun h7 => ⟨by omega, by omega, ?_⟩, fun h7 => ?_⟩⟩, fun h => by omega⟩
              · obtain ⟨j, j1, j2, j3⟩ := hx.resolve_left (fun z => by omega)
                have e : j = a := by omega
                subst e
                have : chg (zh Z) j s = none := by
                  unfold chg
                  rw [if_pos (j3 ▸ pg_mem ha), if_pos j3]
                rw [this]
                exact hst1
              · have hno := (hx.resolve_right (fun ⟨j, j1, _, _⟩ => by omega)).2
                have hns : s ∉ zh Z := fun w => by
                  obtain ⟨j, hj, e⟩ := mem_pg w
                  exact hno j (by omega) e
                rw [Int.toNat_natCast]
                exact try1 _ _ (by unfold chg; rw [if_neg hns]) (hh.set ha s) (Same.mu (by decide))
              · obtain ⟨j, rfl, j2, j3⟩ := hx.resolve_left (fun z => h7 z.1)
                have hja : j ≠ a := fun z => h4 (by omega)
                have hj : j < (zh Z).length := by omega
                have hsm : s ∈ zh Z := j3 ▸ pg_mem hj
                have hb : (zh Z).idxOf s < (zh Z).length := List.idxOf_lt_length_of_mem hsm
                have hbs : pg (zh Z) ((zh Z).idxOf s) = s := by rw [pg_eq hb]; exact List.getElem_idxOf hb
                have hij : (zh Z).idxOf s = j := pg_inj hok.2 hb hj (by rw [hbs, j3])
                rw [Int.toNat_natCast, Int.toNat_natCast, hh.pg ha]
                refine ⟨by omega, by omega, by omega, by omega, ?_⟩
                refine try1 (((zh Z).set j (pg (zh Z) a)).set a s) _ ?_ ?_ ((Same.mu (by decide)).tr (Same.mu (by decide)))
                · unfold chg
                  rw [if_pos hsm, if_neg (fun z => hja (pg_inj hok.2 hj ha (by rw [j3, z]))), hij, List.set_comm _ _ hja]
                · have w := hh.set hj (pg (zh Z) a)
                  exact w.set (by rw [List.length_set]; exact ha) s
            | succ f ihf =>
              intro b x4 hb hx
              refine rX11_findChange_48 ⟨fun h => by omega, fun _ => ?_⟩
              rw [Int.toNat_natCast, hh.pg (by omega)]
              refine ⟨by omega, by omega, fun h1 => ⟨by omega, ihf (b + 1) x4 (by omega) ?_⟩, fun h1 => ⟨by omega, ihf (b + 1) b (by omega) (Or.inr ⟨b, rfl, by omega, by omega⟩)⟩⟩
              rcases hx with ⟨z1, z2⟩ | ⟨j, z1, z2, z3⟩
              · refine Or.inl ⟨z1, fun j hj => ?_⟩
                by_cases e : j = b
                · rw [e]; omega
                · exact z2 j (by omega)
              · exact Or.inr ⟨j, z1, by omega, z3⟩
          exact seek (dm (zD Z)) 0 (-1) (by omega) (Or.inl ⟨rfl, fun j h => by omega⟩)
      exact inner (dn (zD Z)) 0 st σ0 (by omega) hst hS he
  refine rX11_findChange_0 (CM.mono (fun _ σ1 hq => ?_) (c_X11_takeNow hZ hM))
  obtain ⟨hh, hS1⟩ := hq
  have hSS1 : MSm [88] σ σ1 := MSm.same hS1 (by decide)
  refine CM.mono (fun v σ2 hq => ?_) (c_X11_costOf (p := zh Z) (y := y) hZ (hM.same hSS1 (by decide)) (MLm hL hSS1 (by decide) (by decide)) hl hok.1 hh hy rfl)
  obtain ⟨rfl, rfl⟩ := hq
  have hcb := cM_bd hZ (y := y) hy hl hok.1
  refine outer (dm (zD Z)) 0 (cost (zD Z) y (zh Z), none) _ (by omega) ⟨?_, Or.inl ⟨rfl, by rw [mu_at, if_pos rfl]⟩⟩ ((hSS1.tr (MSm.up73 (by omega))).tr (MSm.up73 (by omega))) (by unfold fcS; rw [hl])
  rw [mu_atn (by decide), mu_at, if_pos rfl]
  show (cost (zD Z) y (zh Z) = -1 ∧ _) ∨ (0 ≤ cost (zD Z) y (zh Z) ∧ cost (zD Z) y (zh Z) ≤ 89100 ∧ cM (zD Z) y (zh Z) = cost (zD Z) y (zh Z))
  omega
theorem c_X11_settled {Z Z' : Zt} {σ : Mem} {y v : Int} (hZ : GZ Z) (hM : MI Z σ) (hN : nxA Z (aYr y (aSet Z)) v Z') : CM mX11_settled [.inr 73, .inl y] σ (RQ σ v Z') := by
  obtain ⟨hA, rfl⟩ := hN
  refine rX11_settled_0 ⟨fun h => ?_, fun h => ⟨(hA.bad h).symm, hM, Same.rf⟩⟩
  obtain ⟨k, hk, ey, e2⟩ := isY_nat h
  have hv := hA.get h e2
  refine CM.mono (fun _ σ1 hq => ?_) (c_X11_layFloor hZ hM)
  obtain ⟨hL, hS⟩ := hq
  have hM1 := hM.same (MSm.same hS (by decide)) (by decide)
  refine CM.mono (fun _ σ2 hq => ?_) (c_X11_takeNow hZ hM1)
  obtain ⟨hh, hS2⟩ := hq
  have hM2 := hM1.same (MSm.same hS2 (by decide)) (by decide)
  have hL2 := hL.same hS2 (by decide) (by decide)
  refine CM.mono (fun w σ3 hq => ?_) (c_X11_costOf (y := k) hZ hM2 hL2 hZ.len hZ.ok.1 hh hk ey)
  obtain ⟨rfl, rfl⟩ := hq
  have hb := cM_bd hZ (y := k) hk hZ.len hZ.ok.1
  unfold aSet at hv
  refine ⟨fun h0 => ?_, fun h0 => ⟨?_, hM2, (hS.wk (by decide)).tr (hS2.wk (by decide))⟩⟩
  · refine CM.mono (fun _ σ4 hq => ?_) (c_X11_findChange (y := k) hZ hM2 hL2 hk ey)
    obtain ⟨hf, hS4⟩ := hq
    have hM4 := hM2.same hS4 (by decide)
    have hSm : Same mds σ σ4 := ((hS.wk (by decide)).tr (hS2.wk (by decide))).tr (hS4.1.wk (by decide))
    refine ⟨fun g => ⟨?_, hM4, hSm⟩, fun g => ⟨?_, hM4, hSm⟩⟩
    · rcases hv with ⟨z1, z2, z3⟩ | ⟨z1, z2⟩
      · rcases hf.2 with ⟨w1, w2⟩ | ⟨r, w1, w2, -⟩
        · exact absurd w2 g
        · rw [z2] at w1; cases w1
      · exact z2.symm
    · rcases hv with ⟨z1, z2, z3⟩ | ⟨z1, z2⟩
      · exact z3.symm
      · rcases hf.2 with ⟨w1, w2⟩ | ⟨r, w1, w2, -⟩
        · exact absurd ⟨by omega, w1⟩ z1
        · omega
  · rcases hv with ⟨z1, z2, z3⟩ | ⟨z1, z2⟩
    · omega
    · exact z2.symm
theorem clS_pre {c : List Nat → Int} {n : Nat} {p : List Nat} : ∀ i q, clS c n p i q → ∀ j, j ≤ i → ∃ r, clS c n p j r
  | 0, q, h, j, hj => ⟨q, by rw [show j = 0 by omega]; exact h⟩
  | i + 1, q, h, j, hj => by
    by_cases e : j = i + 1
    · exact ⟨q, e ▸ h⟩
    · obtain ⟨r, h1, -⟩ := h
      exact clS_pre i r h1 j (by omega)
theorem c_X11_climb {Z Z' : Zt} {σ : Mem} {y v : Int} (hZ : GZ Z) (hM : MI Z σ) (hN : nxClimb Z y v Z') : CM mX11_climb [.inr 73, .inl y] σ (RQ σ v Z') := by
  refine rX11_climb_0 ⟨fun h => ?_, fun h => ?_⟩
  · obtain ⟨k, hk, ey, e2⟩ := isY_nat h
    unfold nxClimb at hN
    rw [e2] at hN
    rcases hN with ⟨w, -⟩ | ⟨-, i, q, hcl, hno, rfl, rfl⟩
    · exact absurd h w
    have hi7 := clS_bd hZ.ok hZ.n6 (by rw [hZ.len]; exact hZ.m5) (by rw [hZ.len]; exact hZ.mn) hcl
    have zML : ∀ r σ1, ML Z σ1 → ML (zH Z r) σ1 := fun r σ1 h => h
    have key : ∀ (d j : Nat) (r : List Nat) (σ0 : Mem), j + d = i → clS (cost (zD Z) k) (dn (zD Z)) (zh Z) j r → MI (zH Z r) σ0 → ML Z σ0 → fcM Z (fcS (cost (zD Z) k) (dn (zD Z)) r) σ0 → Same mds σ σ0 → GO none mX11_climb 21 [some (.inr 73), some (.inl y), some (.inl (j : Int))] [] σ0 (RQ σ i (zH Z q)) := by
      intro d
      induction d with
      | zero =>
        intro j r σ0 hd hj hM0 hL0 hf hS0
        have e : j = i := by omega
        subst e
        have e := clS_un j r q hj hcl
        subst e
        refine rX11_climb_21 ⟨fun _ => ⟨rfl, hM0, hS0⟩, fun g => ?_⟩
        rcases hf.2 with ⟨w1, w2⟩ | ⟨r', w1, w2, -⟩
        · exact absurd w2 g
        · rw [hno] at w1; cases w1
      | succ d ih =>
        intro j r σ0 hd hj hM0 hL0 hf hS0
        obtain ⟨r1, r2, hr2, hr3⟩ := clS_pre i q hcl (j + 1) (by omega)
        have e := clS_un j r2 r hr2 hj
        subst e
        have hrok := clS_ok hZ.ok (j + 1) r1 ⟨r2, hr2, hr3⟩
        have hl1 : r1.length = dm (zD Z) := by rw [hrok.1]; exact hZ.len
        have hZ1 := zH_good hZ hl1 hrok.2
        have hr2ok := clS_ok hZ.ok j r2 hr2
        have hZ2 := zH_good hZ (by rw [hr2ok.1]; exact hZ.len) hr2ok.2
        have h6 := okP.s6 hZ hrok.2
        have e24 : σ0 73 24 = nm r1 := by
          rcases hf.2 with ⟨w1, w2⟩ | ⟨r', w1, w2, -⟩
          · rw [hr3] at w1; cases w1
          · rw [hr3] at w1; cases w1; exact w2
        refine rX11_climb_21 ⟨fun g => by omega, fun g => ?_⟩
        refine CM.mono (fun _ σ1 hq => ?_) (c_X11_layRow (Z := zH Z r2) (k := nm r1) hZ2 hM0 (by rw [show dm (zD (zH Z r2)) = dm (zD Z) from rfl, ← hl1]; exact nm_lt _ h6) e24)
        obtain ⟨-, hh, hS1⟩ := hq
        rw [show dig (dm (zD (zH Z r2))) (nm r1) = r1 from dig_nm (dm (zD Z)) r1 hl1 h6] at hh
        have hM1 := hM0.same (MSm.same hS1 (by decide)) (by decide)
        refine CM.mono (fun _ σ2 hq => ?_) (c_X11_becomeNow (Z := zH Z r2) (p := r1) hZ2 hM1 hl1 hh)
        obtain ⟨g1, g2⟩ := hq
        have hM2 : MI (zH Z r1) σ2 := hM1.hand (MSm.same g2 (by decide)) (by decide) g1
        have hL2 := (hL0.same hS1 (by decide) (by decide)).same g2 (by decide) (by decide)
        refine ⟨by omega, CM.mono (fun _ σ3 hq => ?_) (c_X11_findChange (Z := zH Z r1) (y := k) hZ1 hM2 (zML r1 σ2 hL2) hk ey)⟩
        obtain ⟨hf3, hS3⟩ := hq
        refine ih (j + 1) r1 σ3 (by omega) ⟨r2, hr2, hr3⟩ (hM2.same hS3 (by decide)) (hL2.same hS3.1 (by decide) (by decide)) hf3 (((hS0.tr (hS1.wk (by decide))).tr (g2.wk (by decide))).tr (hS3.1.wk (by decide)))
    refine CM.mono (fun _ σ1 hq => ?_) (c_X11_layFloor hZ hM)
    obtain ⟨hL, hS⟩ := hq
    have hM1 := hM.same (MSm.same hS (by decide)) (by decide)
    refine CM.mono (fun _ σ2 hq => ?_) (c_X11_findChange (y := k) hZ hM1 hL hk ey)
    obtain ⟨hf, hS2⟩ := hq
    exact key i 0 (zh Z) σ2 (by omega) rfl (hM1.same hS2 (by decide)) (hL.same hS2.1 (by decide) (by decide)) hf ((hS.wk (by decide)).tr (hS2.1.wk (by decide)))
  · rcases hN with ⟨-, rfl, rfl⟩ | ⟨w, -⟩
    · exact ⟨rfl, hM, Same.rf⟩
    · exact absurd w h
