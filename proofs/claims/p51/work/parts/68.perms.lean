/-! ===== ROWS IN THEIR ORDER ===== -/
def gl (l : List Nat) (i : Nat) : Nat := l.getD i 0
def sw (l : List Nat) (i j : Nat) : List Nat := (l.set i (gl l j)).set j (gl l i)
def fk (l : List Nat) : Nat → Option Nat
  | 0 => none
  | k + 1 => if gl l (k + 1) < gl l k then fk l k else some k
def fo (l : List Nat) (x : Nat) : Nat → Nat
  | 0 => 0
  | o + 1 => if gl l (o + 1) < x then fo l x o else o + 1
def rv : Nat → List Nat → Nat → Nat → List Nat
  | 0, l, _, _ => l
  | m + 1, l, i, j => if i < j then rv m (sw l i j) (i + 1) (j - 1) else l
def nx (l : List Nat) : Option (List Nat) := match fk l (l.length - 1) with
  | none => none
  | some k => some (rv l.length (sw l k (fo l (gl l k) (l.length - 1))) (k + 1) (l.length - 1))
def rg : Nat → Nat → List Nat
  | _, 0 => []
  | j, k + 1 => j :: rg (j + 1) k
def prm : Nat → List Nat → List (List Nat)
  | 0, _ => [[]]
  | m + 1, r => r.flatMap fun x => (prm m (r.filter (fun y => y != x))).map (fun c => x :: c)
def chn : List (List Nat) → Bool
  | [] => true
  | a :: t => (match t with | [] => (nx a == none) | b :: _ => (nx a == some b)) && chn t
def okR (n : Nat) (l : List Nat) : Bool := l.length == n && l.all (fun x => decide (x < n))
set_option maxRecDepth 100000 in
theorem chn_all : ∀ n, n < 8 → chn (prm n (rg 0 n)) = true ∧ (prm n (rg 0 n)).all (okR n) = true ∧ (prm n (rg 0 n)).length ≤ 5040 ∧ (prm n (rg 0 n)).head? = some (rg 0 n) := by decide +kernel
/-! sets of small numbers as words -/
def bV (V a : Nat) : Bool := V / 2 ^ a % 2 == 1
def oV (V a : Nat) : Nat := if bV V a then V else V + 2 ^ a
def rem_ (V n : Nat) : List Nat := (rg 0 n).filter (fun a => !bV V a)
theorem bit7 : ∀ V, V < 128 → ∀ a, a < 7 → ((((nI V) >>> ((nI a) &&& 31)) &&& 1) = 0 ↔ bV V a = false) ∧ ((nI V) ||| ((1 : Int32) <<< ((nI a) &&& 31))) = nI (oV V a) ∧ oV V a < 128 := by decide +kernel
theorem rem_fin : ∀ n, n < 8 → ∀ V, V < 128 → ∀ a, a < n → bV V a = false → (rem_ V n).filter (fun y => y != a) = rem_ (oV V a) n ∧ (rem_ (oV V a) n).length + 1 = (rem_ V n).length := by decide +kernel
theorem rem_zero : ∀ n, n < 8 → rem_ 0 n = rg 0 n ∧ (rg 0 n).length = n := by decide +kernel
