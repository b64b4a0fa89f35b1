/-! what is meant: functions of a place's record alone (fields as the class has them: 0 projects, 1 goal, 2 closed, 3 persons, 4 purse, 5 paid, 6 open, 7 called, 8 giver, 9 target, 10 amount, 11 kind, 12 value, 13 turn, 14 made, 15 withdrawn, 16 money) -/
theorem RI_t {b : Bool} {w : Wd} (h : b = true) : RI (bI b) w (some (.int 1)) w := ⟨by rw [h]; rfl, rfl⟩
theorem RI_f {b : Bool} {w : Wd} (h : b = false) : RI (bI b) w (some (.int 0)) w := ⟨by rw [h]; rfl, rfl⟩
theorem RI_r {r s : Int32} {w : Wd} (h : s = r) : RI r w (some (.int s)) w := ⟨by rw [h], rfl⟩
theorem nlt {a b : Int32} (h : ¬ a < b) : b ≤ a := Int32.not_lt.mp h
theorem nle {a b : Int32} (h : ¬ a ≤ b) : b < a := Int32.not_le.mp h
theorem lt_n {a b : Int32} (h : a < b) : ¬ b ≤ a := Int32.not_le.mpr h
theorem le_n {a b : Int32} (h : a ≤ b) : ¬ b < a := Int32.not_lt.mpr h
/-- loops: the counter against its end -/
theorem lp_in {i n : Nat} (h : i < n) (hn : n < 2 ^ 31 := by decide) : ¬ nI n ≤ nI i := nI_ge h hn
theorem lp_out {n : Nat} : nI n ≤ nI n := Int32.le_refl _
theorem stp {a x s : Int32} {f : Nat → Int32} {i : Nat} (hs : s = a + sm f i) (hf : f i = x) : s + x = a + sm f (i + 1) := by rw [hs, sm_s, hf, i32_add_assoc]
theorem stp0 {x s : Int32} {f : Nat → Int32} {i : Nat} (hs : s = sm f i) (hf : f i = x) : s + x = sm f (i + 1) := by rw [hs, sm_s, hf]
theorem mkp {s x : Int32} {f : Nat → Bool} {i : Nat} (hs : s = mk f i) (hf : (if f i = true then pw (nI i) else 0) = x) : s ||| x = mk f (i + 1) := by rw [hs, mk_i, hf]
theorem mkt {s : Int32} {f : Nat → Bool} {i : Nat} (hs : s = mk f i) (hf : f i = true) : s ||| pw (nI i) = mk f (i + 1) := by rw [hs, mk_t hf]
theorem mkf {s : Int32} {f : Nat → Bool} {i : Nat} (hs : s = mk f i) (hf : f i = false) : s = mk f (i + 1) := by rw [hs, mk_f hf]
theorem mkf0 {s : Int32} {f : Nat → Bool} {i : Nat} (hs : s = mk f i) (hf : f i = false) : s ||| 0 = mk f (i + 1) := by
  rw [hs, mk_f hf]
  apply bt_ext; intro i hi; rw [bt_or, bt_0, Bool.or_false]
abbrev Ex : Type := Int32 × Int32
def noX : Ex := (-1, 0)
/-- the money of the set for project j, with one more pledge -/
def mny (P : Pl) (x : Ex) (S j : Int32) : Int32 := (if x.1 = j then x.2 else 0) + sm (fun k => if (Bt S k && decide (P 9 k = j)) = true then P 10 k else 0) 12
def mnn (P : Pl) (x : Ex) (S j : Int32) : Int32 := (if x.1 = j then 1 else 0) + sm (fun k => if (Bt S k && decide (P 9 k = j)) = true then 1 else 0) 12
def isO (P : Pl) (S i : Int32) : Bool := anyb (fun k => Bt S k && decide (P 8 k = i)) 12
def wo (S : Int32) (k : Nat) : Int32 := S &&& (pw (nI k) ^^^ (-1))
def hld (P : Pl) (x : Ex) (k : Nat) (S : Int32) : Bool :=
  if P 11 k = 0 then true
  else if P 11 k = 1 then decide (P 12 k ≤ mny P x (wo S k) (P 9 k))
  else if P 11 k = 2 then decide (P 12 k ≤ mnn P x (wo S k) (P 9 k))
  else if P 11 k = 3 then isO P S (P 12 k)
  else decide (P 1 (P 12 k).toNatClampNeg ≤ mny P x S (P 12 k))
def fal (P : Pl) (x : Ex) (S C : Int32) : Int32 := mk (fun k => Bt S k && !hld P x k (S ||| C)) 12
/-- what is left of S behind n waves -/
def gs (P : Pl) (x : Ex) (C : Int32) : Nat → Int32 → Int32
  | 0, S => S
  | n + 1, S => gs P x C n S &&& (fal P x (gs P x C n S) C ^^^ (-1))
def grt (P : Pl) (x : Ex) (S C : Int32) : Int32 := gs P x C 12 S
/-- how many of the first n waves are waves in which some fall -/
def nw (P : Pl) (x : Ex) (S C : Int32) : Nat → Nat
  | 0 => 0
  | n + 1 => if fal P x (gs P x C n S) C = 0 then nw P x S C n else n + 1
/-- the waves in which places fall, over what was noted before -/
def wvm (P : Pl) (x : Ex) (S C : Int32) (old : Nat → Int32) : Nat → Nat → Int32
  | 0 => old
  | n + 1 => fun k => if (decide (k < 12) && Bt (fal P x (gs P x C n S) C) k) = true then nI (n + 1) else wvm P x S C old n k
def amt (P : Pl) (S : Int32) : Int32 := sm (fun k => if Bt S k = true then P 10 k else 0) 12
def cnt (S : Int32) : Int32 := sm (fun k => if Bt S k = true then 1 else 0) 12
def live (P : Pl) : Int32 := P 6 0 ||| P 7 0
def forP (P : Pl) (j : Int32) : Int32 := mk (fun k => Bt (live P) k && decide (P 9 k = j)) 12
def ofP (P : Pl) (i : Int32) : Int32 := mk (fun k => Bt (live P) k && decide (P 8 k = i)) 12
def std (P : Pl) (x : Ex) (g : Int32) : Int32 := grt P x (P 6 0 &&& (g ^^^ (-1))) (P 7 0) ||| P 7 0
def hasG (P : Pl) (x : Ex) (S j : Int32) : Bool := decide (P 1 j.toNatClampNeg ≤ mny P x S j)
/-- the record that the reference's row of numbers stands for -/
def sF (s : Nat → Int32) (k f : Nat) : Int32 := s (29 + 8 * k + f)
def sThere (s : Nat → Int32) (k : Nat) : Bool := decide (sF s k 0 = 1)
def sCalled (s : Nat → Int32) (k : Nat) : Bool := decide (sF s k 6 = 1)
def vP (s : Nat → Int32) : Pl := fun f k => match f with
  | 0 => s 0
  | 1 => s (5 + 2 * k)
  | 2 => mk (fun j => decide (s (5 + 2 * j + 1) = 1)) 4
  | 3 => s 1
  | 4 => s (13 + 2 * k)
  | 5 => s (13 + 2 * k + 1)
  | 6 => mk (fun j => sThere s j && !sCalled s j) 12
  | 7 => mk (fun j => sThere s j && sCalled s j) 12
  | 8 => sF s k 1
  | 9 => sF s k 2
  | 10 => sF s k 3
  | 11 => sF s k 4
  | 12 => sF s k 5
  | 13 => sF s k 7
  | 14 => s 2
  | 15 => s 3
  | 16 => s 4
  | _ => 0
