/-! the class, as a mathematical state: ints by (kind, index, place), the messages that came by sender and number, a message's subject, the four lines (0 acts, 1 dead, 2 waiting, 3 failed), how many messages were made -/
abbrev ca_S : Type := (Nat → Nat → Nat → Int32) × (Nat → Nat → Option Nat) × (Nat → Nat) × (Nat → List Nat) × Nat
def ca_iv (g : ca_S) (k i f : Nat) : Int32 := g.1 k i f
def ca_tb (g : ca_S) (s n : Nat) : Option Nat := g.2.1 s n
def ca_ms (g : ca_S) (j : Nat) : Nat := g.2.2.1 j
def ca_ln (g : ca_S) (x : Nat) : List Nat := g.2.2.2.1 x
def ca_nm (g : ca_S) : Nat := g.2.2.2.2
def ca_si (g : ca_S) (k i f : Nat) (v : Int32) : ca_S := (mr_u3 g.1 k i f v, g.2)
def ca_sn (g : ca_S) (x : Nat) (v : List Nat) : ca_S := (g.1, g.2.1, g.2.2.1, fun a => if a = x then v else ca_ln g a, g.2.2.2.2)
def ca_here (g : ca_S) : Option Nat → Bool
  | none => false
  | some j => decide (¬ ca_iv g 10 j 4 = 6)
def ca_gap (g : ca_S) (s n : Nat) : Bool := decide (1 ≤ n ∧ n ≤ 24) && decide (ca_iv g 6 s n = 0) && !ca_here g (ca_tb g s n)
/-- the least number from n on, of f numbers, that is a gap; else the one behind them -/
def ca_least (g : ca_S) (s : Nat) : Nat → Nat → Nat
  | n, 0 => n
  | n, f + 1 => if ca_gap g s n then n else ca_least g s (n + 1) f
def ca_lg (g : ca_S) (s : Nat) : Nat := ca_least g s 1 24
def ca_in (v lim : Int32) : Bool := decide (-lim ≤ v) && decide (v ≤ lim)
def ca_vo (g : ca_S) (st : Int32) : Int32 := if st = 0 then (if (ca_ln g 2).length < 12 then -1 else 5) else if st = 2 then 2 else if st = 3 then 3 else 0
def ca_vd (g : ca_S) (j : Nat) : Int32 :=
  let st := ca_iv g 7 (ca_ms g j) 0
  if ca_iv g 10 j 1 = 0 then (if st = 0 ∨ st = 3 then 0 else 1)
  else if ca_iv g 10 j 1 = 2 then (if st = 1 ∧ ca_in (ca_iv g 7 (ca_ms g j) 1 + ca_iv g 10 j 3) 1000000 = false then 4 else ca_vo g st)
  else if ca_iv g 10 j 1 = 1 ∨ ca_iv g 10 j 1 = 4 then ca_vo g st else 0
def ca_app (g : ca_S) (x j : Nat) : ca_S := if (ca_ln g x).length < 96 then ca_sn g x (ca_ln g x ++ [j]) else g
def ca_fail (g : ca_S) (j : Nat) (again : Bool) : ca_S := ca_app (ca_si g 10 j 4 (if again then 5 else 4)) (if again then 1 else 3) j
def ca_act (g : ca_S) (j : Nat) : ca_S :=
  if ca_iv g 10 j 1 = 0 then ca_si (ca_si g 7 (ca_ms g j) 0 1) 7 (ca_ms g j) 1 (ca_iv g 10 j 3)
  else if ca_iv g 10 j 1 = 1 then ca_si g 7 (ca_ms g j) 1 (ca_iv g 10 j 3)
  else if ca_iv g 10 j 1 = 2 then ca_si g 7 (ca_ms g j) 1 (ca_iv g 7 (ca_ms g j) 1 + ca_iv g 10 j 3)
  else if ca_iv g 10 j 1 = 4 then ca_si g 7 (ca_ms g j) 0 3
  else ca_si g 10 j 5 (10 * ca_iv g 7 (ca_ms g j) 1 + ca_iv g 7 (ca_ms g j) 0)
def ca_perf (g : ca_S) (j : Nat) : ca_S :=
  let g1 := ca_act g j
  let g2 := ca_si g1 7 (ca_ms g j) 2 (ca_iv g1 7 (ca_ms g j) 2 + 1)
  ca_app (ca_si g2 10 j 4 1) 0 j
def ca_settle (g : ca_S) (j : Nat) (again : Bool) : ca_S :=
  if ca_vd g j = -1 then ca_app (ca_si (ca_si g 10 j 4 3) 10 j 7 (ca_iv g 0 0 7)) 2 j
  else if ¬ ca_vd g j = 0 then ca_si (ca_si g 10 j 4 2) 10 j 5 (-(ca_vd g j))
  else if ¬ ca_iv g 3 0 (ca_iv g 10 j 1).toNatClampNeg = 0 then ca_fail (ca_si g 3 0 (ca_iv g 10 j 1).toNatClampNeg 0) j again
  else ca_perf g j
def ca_first (g : ca_S) (u : Nat) : Option Nat := (ca_ln g 2).findIdx? (fun j => decide (ca_ms g j = u))
def ca_wake (u : Nat) : Nat → ca_S → ca_S
  | 0, g => g
  | n + 1, g => match ca_first g u with
    | none => g
    | some i => ca_wake u n (ca_settle (ca_sn g 2 ((ca_ln g 2).eraseIdx i)) ((ca_ln g 2).getD i 0) false)
def ca_turn (g : ca_S) (j : Nat) (again : Bool) : ca_S :=
  let g1 := ca_settle g j again
  if ca_iv g1 7 (ca_ms g j) 0 = 0 then g1 else ca_wake (ca_ms g j) 12 g1
def ca_give (s : Nat) : Nat → Nat → ca_S → ca_S
  | _, 0, g => g
  | n, f + 1, g => ca_give s (n + 1) f (match ca_tb g s n with
    | none => g
    | some j => if ca_iv g 10 j 4 = 0 then ca_turn g j false else g)
def ca_turns (g : ca_S) (s : Nat) : ca_S := ca_give s 1 (ca_lg g s - 1) g
def ca_come (g : ca_S) (s j : Nat) : ca_S :=
  let g1 := ca_si (ca_si g 10 j 4 0) 10 j 6 (ca_iv g 0 0 7)
  ca_turns (if ca_iv g 10 j 1 = 3 then ca_turn g1 j false else g1) s
def ca_recd (g : ca_S) (j : Nat) : Int32 :=
  let st := ca_iv g 10 j 4
  if st = 1 then 1 else if st = 3 then 4 else if st = 4 then 5 else if st = 2 then ca_iv g 10 j 5 else 2
/-- a new message, in the table -/
def ca_mk (g : ca_S) (s n : Nat) (nm fn : Int32) (u : Nat) (v : Int32) : ca_S :=
  let j := ca_nm g
  (fun a b c => if a = 10 ∧ b = j then (if c = 0 then nm else if c = 1 then fn else if c = 3 then v else 0) else g.1 a b c,
   fun a b => if a = s ∧ b = n then some j else g.2.1 a b, fun b => if b = j then u else g.2.2.1 b, g.2.2.2.1, j + 1)
def ca_retry : Nat → ca_S → ca_S
  | 0, g => g
  | n + 1, g => ca_retry n (match ca_ln g 3 with
    | [] => g
    | j :: r => ca_turn (ca_sn g 3 r) j true)
def ca_longs : Nat → ca_S → ca_S
  | 0, g => g
  | n + 1, g => match ca_ln g 2 with
    | [] => g
    | j :: r => if ca_iv g 0 0 7 - ca_iv g 10 j 7 ≤ 50 then g else ca_longs n (ca_app (ca_si (ca_sn g 2 r) 10 j 4 5) 1 j)
def ca_tick (g : ca_S) (t : Int32) : ca_S :=
  let g1 := ca_si g 0 0 7 t
  let g2 := ca_retry (ca_ln g1 3).length g1
  ca_longs (ca_ln g2 2).length g2
def ca_beh (g : ca_S) (s : Nat) (b : Int32) : Nat → Nat → Bool
  | _, 0 => false
  | n, f + 1 => (match ca_tb g s n with
    | none => false
    | some j => decide (¬ ca_iv g 10 j 4 = 6) && decide (ca_iv g 10 j 6 < b)) || ca_beh g s b (n + 1) f
def ca_cnt (g : ca_S) (s : Nat) (v : Int32) : Nat → Nat → Nat → Nat
  | _, 0, a => a
  | n, f + 1, a => ca_cnt g s v (n + 1) f (match ca_tb g s n with
    | none => a
    | some j => if ca_iv g 10 j 4 = v then a + 1 else a)
def ca_lose (s : Nat) : Nat → Nat → ca_S → Nat → ca_S × Nat
  | _, 0, g, a => (g, a)
  | n, f + 1, g, a => match ca_tb g s n with
    | none => ca_lose s (n + 1) f g a
    | some j => if ca_iv g 10 j 4 = 0 then ca_lose s (n + 1) f (ca_si g 10 j 4 6) (a + 1) else ca_lose s (n + 1) f g a
def ca_rep (s : Nat) : Nat → Nat → ca_S → Nat → ca_S × Nat
  | _, 0, g, a => (g, a)
  | n, f + 1, g, a => match ca_tb g s n with
    | none => ca_rep s (n + 1) f g a
    | some j => if ca_iv g 10 j 4 = 6 ∧ ca_gap g s n = true then ca_rep s (n + 1) f (ca_come g s j) (a + 1) else ca_rep s (n + 1) f g a
def ca_great (g : ca_S) (s : Nat) : Nat → Nat
  | 0 => 0
  | n + 1 => if ca_here g (ca_tb g s (n + 1)) then n + 1 else ca_great g s n
