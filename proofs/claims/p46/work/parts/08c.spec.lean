/-! ===== what the document says of steps, runs, drives, as functions of integers ===== -/
/-- a flock by its numbers: 0 the step, 1 the last, 2 its cell, 3 the last but one, 4 its cell, 5.. the cells, 9.. how many cells went -/
abbrev Fl : Type := Int → Int
def p_set (f : Fl) (i v : Int) : Fl := fun j => if j = i then v else f j
def p_abs (x : Int) : Int := if 0 ≤ x then x else -x
def p_sgn (x : Int) : Int := if x < 0 then -1 else if 0 < x then 1 else 0
def p_off (w a b : Int) : Int := p_abs (a % w - b % w) + p_abs (a / w - b / w)
def p_by (w h c dx dy : Int) : Int := if 0 ≤ c % w + dx ∧ c % w + dx < w ∧ 0 ≤ c / w + dy ∧ c / w + dy < h then w * (c / w + dy) + (c % w + dx) else -9
def p_dx (way : Int) : Int := if way = 1 then 1 else if way = 3 then -1 else 0
def p_dy (way : Int) : Int := if way = 0 then -1 else if way = 2 then 1 else 0
def p_who (n : Int) (f : Fl) (c but : Int) : Int := p_first (fun k => decide (k ≠ but ∧ f (5 + k) = c)) n.toNat 0
def p_shy (kd : Fl) (k : Int) : Bool := decide (kd k = 1 ∨ kd k = 5)
def p_slow (kd : Fl) (k : Int) : Bool := decide (kd k = 2 ∨ kd k = 4)
def p_aim (kd f : Fl) (k : Int) : Int := if kd k = 3 ∧ f 4 ≠ -9 then f 4 else f 2
def p_can (gr : Fl) (n : Int) (kd f : Fl) (k c : Int) (gate : Bool) : Bool := decide (gr c ≠ 1 ∧ p_who n f c k = -9 ∧ ¬ (gr c = 4 ∧ (kd k = 4 ∨ gate = true)))
def p_try (gr : Fl) (n : Int) (kd f : Fl) (k c : Int) (gate : Bool) : Int := if c = -9 then -9 else if p_can gr n kd f k c gate = true then c else -9
def p_goTo (gr f : Fl) (k c : Int) : Fl := p_set (p_set f (5 + k) (if gr c = 2 then -9 else c)) (9 + k) (f (9 + k) + 1)
def p_bl (f : Fl) (k c : Int) : Fl := p_set (p_set (p_set (p_set f 3 (f 1)) 4 (f 2)) 1 k) 2 c
/-- across first or down first, then the other; sx, sy: by how much -/
def p_two (w h : Int) (gr : Fl) (n : Int) (kd f : Fl) (k sx sy : Int) (gate across : Bool) : Int :=
  if across = true then
    (if sx ≠ 0 ∧ p_try gr n kd f k (p_by w h (f (5 + k)) sx 0) gate ≠ -9 then p_try gr n kd f k (p_by w h (f (5 + k)) sx 0) gate
     else if sy = 0 then -9 else p_try gr n kd f k (p_by w h (f (5 + k)) 0 sy) gate)
  else
    (if sy ≠ 0 ∧ p_try gr n kd f k (p_by w h (f (5 + k)) 0 sy) gate ≠ -9 then p_try gr n kd f k (p_by w h (f (5 + k)) 0 sy) gate
     else if sx = 0 then -9 else p_try gr n kd f k (p_by w h (f (5 + k)) sx 0) gate)
/-- where one goes in a step by its aim; -9: it stays -/
def p_next (w h : Int) (gr : Fl) (n : Int) (kd f : Fl) (k aim : Int) (gate : Bool) : Int :=
  if aim = -9 then -9
  else if (p_shy kd k = true ∧ kd k = 5 ∧ 3 ≤ p_off w aim (f (5 + k))) ∨ (p_shy kd k = false ∧ p_off w aim (f (5 + k)) ≤ 1) then -9
  else p_two w h gr n kd f k ((if p_shy kd k = true then -1 else 1) * p_sgn (aim % w - f (5 + k) % w)) ((if p_shy kd k = true then -1 else 1) * p_sgn (aim / w - f (5 + k) / w)) gate (decide (p_abs (aim / w - f (5 + k) / w) ≤ p_abs (aim % w - f (5 + k) % w)))
/-- one in a step: the flock, who went (bits), who went last, whereto, whether a gate is used -/
abbrev Ss : Type := Fl × Int × Int × Int × Bool
def p_stepB (w h : Int) (gr : Fl) (n : Int) (kd f0 : Fl) (k : Int) (s : Ss) : Ss :=
  if k = f0 1 ∨ s.1 (5 + k) = -9 ∨ (f0 0 % 2 = 1 ∧ p_slow kd k = true) then s
  else if p_next w h gr n kd s.1 k (p_aim kd f0 k) s.2.2.2.2 = -9 then s
  else (p_goTo gr s.1 k (p_next w h gr n kd s.1 k (p_aim kd f0 k) s.2.2.2.2), s.2.1 + 2 ^ k.toNat, k, p_next w h gr n kd s.1 k (p_aim kd f0 k) s.2.2.2.2, s.2.2.2.2 || decide (gr (p_next w h gr n kd s.1 k (p_aim kd f0 k) s.2.2.2.2) = 4))
def p_stepE (s : Ss) : Fl := if s.2.2.1 = -9 then p_set s.1 0 (s.1 0 + 1) else p_bl (p_set s.1 0 (s.1 0 + 1)) s.2.2.1 s.2.2.2.1
def p_stepL (w h : Int) (gr : Fl) (n : Int) (kd f : Fl) : Ss := p_loop (p_stepB w h gr n kd f) n.toNat 0 (f, 0, -9, -9, false)
def p_stepF (w h : Int) (gr : Fl) (n : Int) (kd f : Fl) : Fl := p_stepE (p_stepL w h gr n kd f)
def p_stepW (w h : Int) (gr : Fl) (n : Int) (kd f : Fl) : Int := (p_stepL w h gr n kd f).2.1
/-- m steps at most until none went in two: the flock, how many stood still, how many steps -/
def p_run (w h : Int) (gr : Fl) (n : Int) (kd : Fl) : Nat → Int → Int → Fl → Fl × Int × Int
  | 0, st, sp, f => (f, st, sp)
  | m + 1, st, sp, f => if st < 2 then p_run w h gr n kd m (if p_stepW w h gr n kd f = 0 then st + 1 else 0) (sp + 1) (p_stepF w h gr n kd f) else (f, st, sp)
def p_runs (w h : Int) (gr : Fl) (n : Int) (kd f : Fl) : Fl × Int × Int := p_run w h gr n kd 40 0 0 f
/-- a stirring: whereto; -9 -/
def p_stir (w h : Int) (gr : Fl) (n : Int) (kd f : Fl) (k way : Int) : Int := if f (5 + k) = -9 then -9 else p_try gr n kd f k (p_by w h (f (5 + k)) (p_dx way) (p_dy way)) false
def p_stirF (gr f : Fl) (k c : Int) : Fl := p_bl (p_goTo gr f k c) k c
/-- a drive -/
def p_drive (w h : Int) (gr : Fl) (n : Int) (kd f : Fl) (code : Int) : Option Fl :=
  if p_stir w h gr n kd f (code / 4) (code % 4) = -9 then none else some (p_runs w h gr n kd (p_stirF gr f (code / 4) (p_stir w h gr n kd f (code / 4) (code % 4)))).1
def p_lost (n : Int) (f : Fl) : Int := p_loop (fun k s => if f (5 + k) = -9 then s + 1 else s) n.toNat 0 0
def p_apart (w n : Int) (f : Fl) : Int := p_loop (fun k s => p_loop (fun j s => if f (5 + k) ≠ -9 ∧ f (5 + j) ≠ -9 then s + p_off w (f (5 + k)) (f (5 + j)) else s) (n - (k + 1)).toNat (k + 1) s) n.toNat 0 0
def p_safe (gr : Fl) (n : Int) (f : Fl) : Bool := decide (0 < n ∧ p_first (fun k => decide (f (5 + k) = -9 ∨ gr (f (5 + k)) ≠ 3)) n.toNat 0 = -9)
def p_at (n : Int) (row : Int → Int32) (f : Fl) : Bool := decide (p_first (fun k => decide (¬ j_k (f (5 + k)) = row k)) n.toNat 0 = -9)
/-! ===== what is true of a flock on its ground ===== -/
/-- the ground is one that a text can tell, or none -/
def okC (w h N n : Int) (gr kd : Fl) : Prop :=
  N = w * h ∧ ((2 ≤ w ∧ w ≤ 6 ∧ 1 ≤ h ∧ h ≤ 5) ∨ (w = 0 ∧ h = 0 ∧ n = 0)) ∧ 0 ≤ n ∧ n ≤ 4 ∧ (∀ c, 0 ≤ c → c < N → 0 ≤ gr c ∧ gr c ≤ 4) ∧ (∀ k, 0 ≤ k → k < n → 0 ≤ kd k ∧ kd k ≤ 5)
def okF (N n b : Int) (f : Fl) : Prop :=
  (∀ k, 0 ≤ k → k < n → f (5 + k) = -9 ∨ (0 ≤ f (5 + k) ∧ f (5 + k) < N)) ∧
  (∀ j k, 0 ≤ j → j < k → k < n → f (5 + j) = f (5 + k) → f (5 + j) = -9) ∧
  ((f 1 = -9 ∧ f 2 = -9) ∨ (0 ≤ f 1 ∧ f 1 < n ∧ 0 ≤ f 2 ∧ f 2 < N)) ∧
  ((f 3 = -9 ∧ f 4 = -9) ∨ (0 ≤ f 3 ∧ f 3 < n ∧ 0 ≤ f 4 ∧ f 4 < N)) ∧
  (f 1 = -9 → f 3 = -9) ∧ 0 ≤ f 0 ∧ f 0 ≤ b
