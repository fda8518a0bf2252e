/-! ===== moves: who sits on whose aim, and the loops among them ===== -/
def gn (g : List Nat) (b : Nat) : Nat := g.getD b 9
def cyF (g : List Nat) (start : Nat) : Nat → Nat → List Nat → List Nat
  | 0, _, _ => []
  | f + 1, a, acc => if gn g a = a then [] else if gn g a = 9 then [] else if gn g a = start then acc else if gn g a < start then [] else cyF g start f (gn g a) (acc ++ [gn g a])
def cy (g : List Nat) (b : Nat) : List Nat := cyF g b 5 b [b]
/-- a steps to the aim of c (9: nobody's) -/
def gst (m : Nat) (g : List Nat) (a c : Nat) : List Nat := (List.range m).map (fun b => if b = c then a else if gn g b = a then 9 else gn g b)
def cyOf (g : List Nat) (m : Nat) : List (List Nat) := (List.range m).map (cy g)
def inP (g : List Nat) (m : Nat) : List Bool := (List.range m).map (fun b => gn g b == b)
/-- what a step does to places and loops -/
def chk (m : Nat) (g : List Nat) (a c : Nat) : Bool :=
  let g' := gst m g a c
  let C := cyOf g m
  let C' := cyOf g' m
  let P := inP g m
  let P' := inP g' m
  if gn g a == a then C == C' && P' == P.set a false
  else if gn g' a == a then C == C' && P' == P.set a true
  else P == P' && ((C == C' && C.all (fun l => !l.contains a)) || (List.range m).any (fun b => C.set b [] == C'.set b [] && ((C.getD b [] == [] && C.all (fun l => !l.contains a)) || (C'.getD b [] == [] && (C.getD b []).contains a))))
def chkG (m : Nat) (g : List Nat) : Bool := (List.range m).all (fun a => (9 :: List.range m).all (fun c => (c != 9 && gn g c != 9) || chk m g a c))
/-- the lists that begin so, k places longer -/
def gsP (m : Nat) (l : List Nat) : Nat → List (List Nat)
  | 0 => [l]
  | k + 1 => (gsP m l k).flatMap (fun l => ((List.range m).filter (fun v => !l.contains v) ++ [9]).map (fun v => l ++ [v]))
theorem chk_few : ∀ m, m < 5 → (gsP m [] m).all (chkG m) = true := by decide +kernel
theorem chk_01 : (gsP 5 [0, 1] 3).all (chkG 5) = true := by decide +kernel
theorem chk_02 : (gsP 5 [0, 2] 3).all (chkG 5) = true := by decide +kernel
theorem chk_03 : (gsP 5 [0, 3] 3).all (chkG 5) = true := by decide +kernel
theorem chk_04 : (gsP 5 [0, 4] 3).all (chkG 5) = true := by decide +kernel
theorem chk_09 : (gsP 5 [0, 9] 3).all (chkG 5) = true := by decide +kernel
theorem chk_10 : (gsP 5 [1, 0] 3).all (chkG 5) = true := by decide +kernel
theorem chk_12 : (gsP 5 [1, 2] 3).all (chkG 5) = true := by decide +kernel
theorem chk_13 : (gsP 5 [1, 3] 3).all (chkG 5) = true := by decide +kernel
theorem chk_14 : (gsP 5 [1, 4] 3).all (chkG 5) = true := by decide +kernel
theorem chk_19 : (gsP 5 [1, 9] 3).all (chkG 5) = true := by decide +kernel
theorem chk_20 : (gsP 5 [2, 0] 3).all (chkG 5) = true := by decide +kernel
theorem chk_21 : (gsP 5 [2, 1] 3).all (chkG 5) = true := by decide +kernel
theorem chk_23 : (gsP 5 [2, 3] 3).all (chkG 5) = true := by decide +kernel
theorem chk_24 : (gsP 5 [2, 4] 3).all (chkG 5) = true := by decide +kernel
theorem chk_29 : (gsP 5 [2, 9] 3).all (chkG 5) = true := by decide +kernel
theorem chk_30 : (gsP 5 [3, 0] 3).all (chkG 5) = true := by decide +kernel
theorem chk_31 : (gsP 5 [3, 1] 3).all (chkG 5) = true := by decide +kernel
theorem chk_32 : (gsP 5 [3, 2] 3).all (chkG 5) = true := by decide +kernel
theorem chk_34 : (gsP 5 [3, 4] 3).all (chkG 5) = true := by decide +kernel
theorem chk_39 : (gsP 5 [3, 9] 3).all (chkG 5) = true := by decide +kernel
theorem chk_40 : (gsP 5 [4, 0] 3).all (chkG 5) = true := by decide +kernel
theorem chk_41 : (gsP 5 [4, 1] 3).all (chkG 5) = true := by decide +kernel
theorem chk_42 : (gsP 5 [4, 2] 3).all (chkG 5) = true := by decide +kernel
theorem chk_43 : (gsP 5 [4, 3] 3).all (chkG 5) = true := by decide +kernel
theorem chk_49 : (gsP 5 [4, 9] 3).all (chkG 5) = true := by decide +kernel
theorem chk_90 : (gsP 5 [9, 0] 3).all (chkG 5) = true := by decide +kernel
theorem chk_91 : (gsP 5 [9, 1] 3).all (chkG 5) = true := by decide +kernel
theorem chk_92 : (gsP 5 [9, 2] 3).all (chkG 5) = true := by decide +kernel
theorem chk_93 : (gsP 5 [9, 3] 3).all (chkG 5) = true := by decide +kernel
theorem chk_94 : (gsP 5 [9, 4] 3).all (chkG 5) = true := by decide +kernel
theorem chk_99 : (gsP 5 [9, 9] 3).all (chkG 5) = true := by decide +kernel
