-- ===== ASKING, as the document has it: an OBJECT is worked out over the written-out query. B: the cells of plan, rows, switches
/-- the codes, how many were worked out, the places that were noted -/
abbrev SA : Type := List Int × Int × List (List Int)
def sayE (c : Int) (s : SA) : Int ⊕ SA := if 120 ≤ s.2.1 then .inl (-5) else .inr (s.1 ++ [c], s.2.1 + 1, s.2.2)
/-- a value that is nothing by itself -/
def nonE (B : Mem) (h : Int) (path : List Int) (s : SA) : Int ⊕ (Int × SA) := match sayE 1 s with
  | .inl x => .inl x
  | .inr s1 => if B h 8 = 0 then .inr (1, s1) else .inr (0, s1.1, s1.2.1, s1.2.2 ++ [path])
abbrev celE (B : Mem) (r h : Int) : Int := (r - 1) * 4 + B h 3
/-- the OBJECTS of a MANY, from number i on, k of them; ok: whether all were there so far -/
def manE (B : Mem) (obj : Int → List Int → SA → Int ⊕ (Int × SA)) (r h : Int) (path : List Int) : Nat → Int → Int → SA → Int ⊕ (Int × SA)
  | 0, _, ok, s => .inr (ok, s)
  | k + 1, i, ok, s => match obj (B 10 (celE B r h * 4 + i)) (path ++ [10 + i]) s with
    | .inl x => .inl x
    | .inr (v, s1) => manE B obj r h path k (i + 1) (if v = 1 ∧ ok = 1 then 1 else 0) s1
def valE (B : Mem) (obj : Int → List Int → SA → Int ⊕ (Int × SA)) (r h : Int) (path : List Int) (s : SA) : Int ⊕ (Int × SA) :=
  if B h 1 = 2 then (match sayE (2000 + B 7 (r - 1)) s with | .inl x => .inl x | .inr s1 => .inr (1, s1))
  else if B h 7 = 1 then (if B 9 (celE B r h) = 0 then nonE B h path s else match obj (B 10 (celE B r h * 4 + 0)) path s with | .inl x => .inl x | .inr (v, s1) => .inr (if v = 1 ∨ B h 8 = 0 then 1 else 0, s1))
  else if B h 7 = 2 then (match sayE 4 s with
    | .inl x => .inl x
    | .inr s1 => match manE B obj r h path (B 9 (celE B r h)).toNat 0 1 s1 with
      | .inl x => .inl x
      | .inr (v, s2) => match sayE 5 s2 with
        | .inl x => .inl x
        | .inr s3 => .inr (if v = 1 ∨ B h 8 = 0 then 1 else 0, s3))
  else (if B 8 (celE B r h) = -1 then nonE B h path s else match sayE (1000 + B 8 (celE B r h)) s with | .inl x => .inl x | .inr s1 => .inr (1, s1))
def entE (B : Mem) (obj : List Int → Int → List Int → SA → Int ⊕ (Int × SA)) (r : Int) (path : List Int) : List (List Int) → Int → SA → Int ⊕ (Int × SA)
  | [], ok, s => .inr (ok, s)
  | e :: es, ok, s => match sayE (10 + B (hdE e) 2) s with
    | .inl x => .inl x
    | .inr s1 => match valE B (obj e) r (hdE e) (path ++ [B (hdE e) 2]) s1 with
      | .inl x => .inl x
      | .inr (v, s2) => entE B obj r path es (if v = 1 ∧ ok = 1 then 1 else 0) s2
/-- the OBJECT of the row r with the sets: an error (CLASH, LONG), or whether it is there, and the codes behind it -/
def objE (B : Mem) : Nat → List Int → Int → List Int → SA → Int ⊕ (Int × SA)
  | 0, _, _, _, _ => .inl (-5)
  | d + 1, sets, r, path, s => match cO B (B 7 (r - 1)) sets [] with
    | none => .inl (-4)
    | some es => match sayE 2 s with
      | .inl x => .inl x
      | .inr s1 => match entE B (objE B d) r path es 1 s1 with
        | .inl x => .inl x
        | .inr (ok, s2) => match sayE 3 s2 with
          | .inl x => .inl x
          | .inr s3 => if ok = 1 then .inr (1, s3) else .inr (0, s.1 ++ [1], s3.2.1, s3.2.2)
/-- the list stands in the cell c from place 0 on -/
def arL (M : Mem) (c : Int) (o : Int) (L : List Int) : Prop := ∀ k : Nat, k < L.length → M c (o + (k : Int)) = L.getD k 0
/-- the class's cells hold what was worked out so far; here: the place where the work is -/
def ASt (M : Mem) (s : SA) (here : List Int) : Prop := (M 81 4 = (s.1.length : Int) ∧ arL M 87 0 s.1 ∧ (s.1.length : Int) ≤ s.2.1) ∧ (M 81 5 = s.2.1 ∧ s.2.1 ≤ 120) ∧ M 81 6 = 0 ∧ (M 83 3 = (here.length : Int) ∧ arL M 84 0 here ∧ here.length ≤ 26) ∧ (M 83 4 = (s.2.2.length : Int) ∧ 2 * (s.2.2.length : Int) ≤ s.2.1 ∧ ∀ k : Nat, k < s.2.2.length → M 85 k = ((s.2.2.getD k []).length : Int) ∧ (s.2.2.getD k []).length ≤ 26 ∧ arL M 86 ((k : Int) * 26) (s.2.2.getD k []))
