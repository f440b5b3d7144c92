/-! ### what a text says: a machine that class and reference both follow -/
/-- a text: its bytes, how many -/
abbrev yT : Type := (Int → Int) × Int
def yLet (x : Int) : Bool := (decide (65 ≤ x) && decide (x ≤ 90)) || (decide (97 ≤ x) && decide (x ≤ 122))
def yNb (x : Int) : Bool := yLet x || (decide (48 ≤ x) && decide (x ≤ 57))
def yBl (x : Int) : Bool := decide (x = 32) || decide (x = 10)
def ySg (x : Int) : Bool := decide (x = 60) || decide (x = 62) || decide (x = 44) || decide (x = 58) || decide (x = 38) || decide (x = 63) || decide (x = 94) || decide (x = 59) || decide (x = 61)
/-- the end of a stretch of bytes of one sort -/
def yruF (p : Int → Bool) (T : yT) : Nat → Int → Int
  | 0, i => i
  | f + 1, i => if i < T.2 ∧ p (T.1 i) = true then yruF p T f (i + 1) else i
def yru (p : Int → Bool) (T : yT) (i : Int) : Int := yruF p T (T.2 - i).toNat i
/-- the number that a name's bytes are -/
def yv (T : yT) (j : Int) : Nat → Int64
  | 0 => 0
  | k + 1 => (yv T j k <<< ((Int32.ofInt 8).toInt64 &&& 63)) ||| (Int32.ofInt (T.1 (j + k))).toInt64
/-- of the token that begins at i or behind blanks there: its place, size, name, kind; where the next may begin -/
def ypl (T : yT) (i : Int) : Int := yru yBl T i
def ysz (T : yT) (i : Int) : Int := if T.2 ≤ ypl T i then 0 else if yLet (T.1 (ypl T i)) = true then yru yNb T (ypl T i + 1) - ypl T i else 1
def ynm (T : yT) (i : Int) : Int64 := if ysz T i ≤ 8 then yv T (ypl T i) (ysz T i).toNat else 0
def ykd (T : yT) (i : Int) : Int := if T.2 ≤ ypl T i then 0 else if yLet (T.1 (ypl T i)) = true then
    (if 8 < ysz T i then 1 else if ynm T i = 26990 then 3 else if ynm T i = 2003399784 then 4 else if ynm T i = 418263299685 then 5 else 2)
  else if ySg (T.1 (ypl T i)) = true then T.1 (ypl T i) else 1
def ynx (T : yT) (i : Int) : Int := ypl T i + ysz T i
/-- the first place with a number -/
def yfF (f : Int → Int) (x hi : Int) : Nat → Int → Int
  | 0, _ => -1
  | m + 1, k => if k < hi then (if f k = x then k else yfF f x hi m (k + 1)) else -1
def yfd (f : Int → Int) (x lo hi : Int) : Int := yfF f x hi (hi - lo).toNat lo
/-- a TYPE that is open: what it is bound to a ? by, its head, its ARGS -/
abbrev yF : Type := Int × Int × List (List Int)
/-- a table: numbers (0: classes, PARAMETERS, NODES, whose, role, six, which PARAMETER, two counters; 1 to 4 of a class: name, first, how many, TYPES behind its colon; 5 to 7 of a PARAMETER: name, BOUNDS, class), TYPES (0 BOUNDS, 1 behind the colon, 2 ABOVE) -/
abbrev yB : Type := (Nat → Int → Int) × (Nat → Int → Int → List (List Int))
abbrev yS : Type := Nat × Int × Int × List yF × yB
def yN (B : yB) (k : Nat) (i x : Int) : yB := (fun k' i' => if k' = k ∧ i' = i then x else B.1 k' i', B.2)
def yL (B : yB) (k : Nat) (i j : Int) (l : List (List Int)) : yB := (B.1, fun k' i' j' => if k' = k ∧ i' = i ∧ j' = j then l else B.2 k' i' j')
def yfp (B : yB) (x : Int) : Int := if 0 ≤ B.1 0 3 then yfd (B.1 5) x (B.1 2 (B.1 0 3)) (B.1 2 (B.1 0 3) + B.1 3 (B.1 0 3)) else -1
def yfc (B : yB) (x : Int) : Int := yfd (B.1 1) x 0 (B.1 0 0)
/-- what a NAME means -/
def yhd (B : yB) (x : Int) : Int := if 0 ≤ yfp B x then 32 + yfp B x else yfc B x
def yar (B : yB) (h : Int) : Int := if 0 ≤ h ∧ h < B.1 0 0 then B.1 3 h else if h = 201 ∨ h = 202 then 1 else 0


def ywr (w : Int) : List Int := if w = 4 then [201] else if w = 5 then [202] else []
/-- a TYPE's row of heads -/
def ycd (f : yF) : List Int := ywr f.1 ++ f.2.1 :: f.2.2.flatten
def ysub (f : Int) (as : List (List Int)) (l : List Int) : List Int := l.flatMap (fun h => if 32 ≤ h ∧ h < 112 then as.getD (h - 32 - f).toNat [] else [h])
def ymay (B : yB) (d : Nat) (k : Int) : Bool := if d = 0 then
    (if B.1 0 4 = 0 then decide (k = 38) || decide (k = 44) || decide (k = 58) || decide (k = 59)
     else if B.1 0 4 = 1 then decide (k = 44) || decide (k = 59)
     else if B.1 0 4 = 2 then decide (k = 60) else if B.1 0 4 = 3 then decide (k = 0) else decide (k = 5))
  else decide (k = 44) || decide (k = 62)
def yown (B : yB) : List Int := B.1 0 3 :: (List.range (B.1 3 (B.1 0 3)).toNat).map (fun (i : Nat) => 32 + B.1 2 (B.1 0 3) + (i : Int))
def yflt (T : yT) (B : yB) (p : Int) (c : Int) : yS := (20, ypl T p, (if ykd T p = 1 then 1 else c), [], B)
def ym0 (T : yT) (p : Int) (B : yB) : yS :=
  if ykd T p ≠ 2 then yflt T B p 2 else if 0 ≤ yfc B (ynm T p).toInt then yflt T B p 3 else if 21 ≤ B.1 0 0 then yflt T B p 6
  else (1, ynx T p, 0, [], yN (yN (yN (yN (yN (yN B 1 (B.1 0 0) (ynm T p).toInt) 2 (B.1 0 0) (B.1 0 1)) 3 (B.1 0 0) 0) 4 (B.1 0 0) 0) 0 3 (B.1 0 0)) 0 0 (B.1 0 0 + 1))
def yap (B : yB) (x : Int) : yB := yN (yN (yN (yN (yN B 5 (B.1 0 1) x) 7 (B.1 0 1) (B.1 0 3)) 6 (B.1 0 1) 0) 3 (B.1 0 3) (B.1 3 (B.1 0 3) + 1)) 0 1 (B.1 0 1 + 1)
def ym2 (T : yT) (p : Int) (B : yB) : yS :=
  let q := ynx T p
  if ykd T q ≠ 2 then yflt T B q 2 else if 0 ≤ yfp B (ynm T q).toInt then yflt T B q 3 else if 4 ≤ B.1 3 (B.1 0 3) then yflt T B q 6
  else
    let B' := yap B (ynm T q).toInt
    let r := ynx T q
    if ykd T r = 62 then (3, ynx T r, 0, [], B') else if ykd T r = 44 then (2, r, 0, [], B') else yflt T B' r 2
def ym4 (T : yT) (p : Int) (B : yB) : yS :=
  let q := ynx T p
  if ykd T q ≠ 2 then yflt T B q 2 else if yfp B (ynm T q).toInt < 0 then yflt T B q 4 else if 0 < B.1 6 (yfp B (ynm T q).toInt) then yflt T B q 3
  else
    let r := ynx T q
    if ykd T r ≠ 58 then yflt T B r 2 else (5, r, 0, [], yN B 0 6 (yfp B (ynm T q).toInt))
def yon (B : yB) : yB := (B.1, fun k i j => if k = 2 ∧ i = B.1 0 3 then (if j = i then [yown B] else if j = 0 then [[0]] else []) else B.2 k i j)
def ym15 (T : yT) (p : Int) (B : yB) : yS :=
  if B.1 4 (B.1 0 3) ≤ B.1 0 7 then (9, ynx T p, 0, [], B)
  else if B.1 0 0 ≤ B.1 0 8 then (15, p, 0, [], yN (yN B 0 7 (B.1 0 7 + 1)) 0 8 0)
  else
    let s := B.2 1 (B.1 0 3) (B.1 0 7)
    let e := (s.headD []).headD 0
    match B.2 2 e (B.1 0 8) with
    | [] => (15, p, 0, [], yN B 0 8 (B.1 0 8 + 1))
    | t :: _ =>
      let u := ysub (B.1 2 e) s.tail t
      let o := B.2 2 (B.1 0 3) (B.1 0 8)
      if 200 < u.length ∨ (o ≠ [] ∧ o ≠ [u]) then yflt T B p 8
      else (15, p, 0, [], yN (yL B 2 (B.1 0 3) (B.1 0 8) [u]) 0 8 (B.1 0 8 + 1))
def ym10 (T : yT) (p w : Int) (fr : List yF) (B : yB) : yS :=
  let h := yhd B (ynm T p).toInt
  if ykd T p ≠ 2 then yflt T B p 2 else if h < 0 then yflt T B p 4
  else if 300 ≤ B.1 0 2 ∨ 8 ≤ fr.length ∨ (fr.length = 0 ∧ B.1 0 5 ≠ 0) then yflt T B p 6
  else if fr.length = 0 ∧ ((B.1 0 4 = 0 ∧ 32 ≤ h) ∨ (B.1 0 4 = 1 ∧ (32 ≤ h ∨ h = B.1 0 3))) then yflt T B p 7
  else
    let q := ynx T p
    let B' := yN B 0 2 (B.1 0 2 + 1)
    if ykd T q = 60 ∧ ykd T (ynx T q) ≠ 61 then (if 32 ≤ h then yflt T B' q 5 else (11, ynx T q, 0, (w, h, []) :: fr, B'))
    else (12, q, 0, (w, h, []) :: fr, B')
def yadd (l : List Int) (fr : List yF) : List yF := match fr with
  | [] => []
  | f :: r => (f.1, f.2.1, f.2.2 ++ [l]) :: r
def ym11 (T : yT) (p : Int) (fr : List yF) (B : yB) : yS :=
  if ykd T p = 63 then
    (if 300 ≤ B.1 0 2 then yflt T B p 6 else if B.1 0 4 = 1 ∧ fr.length = 1 then yflt T B p 7
     else
      let q := ynx T p
      let B' := yN B 0 2 (B.1 0 2 + 1)
      if ykd T q = 58 then (10, ynx T q, 4, fr, B') else if ykd T q = 94 then (10, ynx T q, 5, fr, B') else (13, q, 0, yadd [200] fr, B'))
  else (10, p, 0, fr, B)
def ym12 (T : yT) (p : Int) (fr : List yF) (B : yB) : yS := match fr with
  | [] => (12, p, 0, fr, B)
  | f :: r => if ymay B r.length (ykd T p) = false then yflt T B p 2 else if (f.2.2.length : Int) ≠ yar B f.2.1 then yflt T B p 5
    else match r with
      | [] => (14, p, 0, fr, B)
      | _ :: _ => (13, p, 0, yadd (ycd f) r, B)
def ym14 (T : yT) (p : Int) (fr : List yF) (B : yB) : yS := match fr with
  | [] => (14, p, 0, fr, B)
  | f :: _ =>
    if B.1 0 4 = 0 then
      (let q := B.1 0 6
       let B' := yN (yL B 0 q (B.1 6 q) ([f.2.1] :: f.2.2)) 6 q (B.1 6 q + 1)
       if ykd T p = 38 then (5, p, 0, [], B') else if ykd T p = 44 then (4, p, 0, [], B') else (6, p, 0, [], B'))
    else if B.1 0 4 = 1 then
      (let c := B.1 0 3
       let B' := yN (yL B 1 c (B.1 4 c) ([f.2.1] :: f.2.2)) 4 c (B.1 4 c + 1)
       if ykd T p = 44 then (7, p, 0, [], B') else (8, p, 0, [], B'))
    else (14, p, 0, fr, B)
/-- one step -/
def yms (T : yT) (s : yS) : yS := match s with
  | (0, p, _, _, B) => ym0 T p B
  | (1, p, _, _, B) => if ykd T p = 60 then (2, p, 0, [], B) else (3, p, 0, [], B)
  | (2, p, _, _, B) => ym2 T p B
  | (3, p, _, _, B) => if ykd T p = 4 then (4, p, 0, [], B) else (6, p, 0, [], B)
  | (4, p, _, _, B) => ym4 T p B
  | (5, p, _, _, B) => (10, ynx T p, 0, [], yN (yN B 0 4 0) 0 5 (if 2 ≤ B.1 6 (B.1 0 6) then 1 else 0))
  | (6, p, _, _, B) => if ykd T p = 58 then (7, p, 0, [], B) else (8, p, 0, [], B)
  | (7, p, _, _, B) => (10, ynx T p, 0, [], yN (yN B 0 4 1) 0 5 (if 4 ≤ B.1 4 (B.1 0 3) then 1 else 0))
  | (8, p, _, _, B) => if ykd T p ≠ 59 then yflt T B p 2 else (15, p, 0, [], yN (yN (yon B) 0 7 0) 0 8 0)
  | (9, p, _, _, B) => if ykd T p = 0 then (21, p, 0, [], B) else (0, p, 0, [], B)
  | (10, p, w, fr, B) => ym10 T p w fr B
  | (11, p, _, fr, B) => ym11 T p fr B
  | (12, p, _, fr, B) => ym12 T p fr B
  | (13, p, _, fr, B) => if ykd T p = 44 then (11, ynx T p, 0, fr, B) else if ykd T p = 62 then (12, ynx T p, 0, fr, B) else yflt T B p 2
  | (14, p, _, fr, B) => ym14 T p fr B
  | (15, p, _, _, B) => ym15 T p B
  | s => s
def yit (T : yT) : Nat → yS → yS
  | 0, s => s
  | k + 1, s => yit T k (yms T s)
/-- by steps from one to the other -/
def yR (T : yT) (s s' : yS) : Prop := ∃ k, yit T k s = s'
theorem yR_r (T : yT) (s : yS) : yR T s s := ⟨0, rfl⟩
theorem yit_add (T : yT) (a b : Nat) (s : yS) : yit T (a + b) s = yit T b (yit T a s) := by
  induction a generalizing s with
  | zero => simp [yit]
  | succ a ih => rw [Nat.succ_add]; exact ih _
theorem yR_t {T : yT} {a b c : yS} (h1 : yR T a b) (h2 : yR T b c) : yR T a c := by
  obtain ⟨k, rfl⟩ := h1
  obtain ⟨m, rfl⟩ := h2
  exact ⟨k + m, yit_add T k m a⟩
theorem yR_s {T : yT} {a b : yS} (h : yR T a b) {c : yS} (e : yms T b = c) : yR T a c := yR_t h ⟨1, e⟩
theorem yit_fix {T : yT} {s : yS} (h : yms T s = s) (k : Nat) : yit T k s = s := by
  induction k with
  | zero => rfl
  | succ k ih => show yit T k (yms T s) = s; rw [h]; exact ih
/-- the end is one -/
theorem yR_one {T : yT} {s a b : yS} (h1 : yR T s a) (h2 : yR T s b) (ha : yms T a = a) (hb : yms T b = b) : a = b := by
  obtain ⟨k, rfl⟩ := h1
  obtain ⟨m, rfl⟩ := h2
  have e1 := yit_fix ha m
  have e2 := yit_fix hb k
  rw [← yit_add] at e1 e2
  rw [← e1, ← e2, Nat.add_comm]
/-- a new table: ANY alone -/
def yB0 : yB := (fun k i => if k = 0 ∧ i = 0 then 1 else if k = 0 ∧ i = 3 then -1 else if k = 1 ∧ i = 0 then 4288121 else 0, fun k i j => if k = 2 ∧ i = 0 ∧ j = 0 then [[0]] else [])
