/-! bits of a set, sums and sets over places -/
theorem V5.dummy : True := trivial
def Bt (s : Int32) (k : Nat) : Bool := s.toBitVec.getLsbD k
def bI (b : Bool) : Int32 := if b then 1 else 0
def pw (x : Int32) : Int32 := (1 : Int32) <<< (x &&& 31)
theorem bI_t : bI true = 1 := rfl
theorem bI_f : bI false = 0 := rfl
theorem bI_0 (b : Bool) : bI b = 0 ↔ b = false := by cases b <;> simp [bI] <;> decide
theorem bI_1 (b : Bool) : bI b = 1 ↔ b = true := by cases b <;> simp [bI] <;> decide
theorem bI_n0 (b : Bool) : ¬ bI b = 0 ↔ b = true := by cases b <;> simp [bI] <;> decide
theorem bI_z (b : Bool) : narrow .boolean (.int (bI b)) = .int (bI b) := by cases b <;> rfl
theorem bI_inj {a b : Bool} (h : bI a = bI b) : a = b := by
  cases a <;> cases b <;> first | rfl | (exact absurd h (by decide))
theorem bt_ext {a b : Int32} (h : ∀ k, k < 32 → Bt a k = Bt b k) : a = b := by
  apply Int32.toBitVec_inj.mp
  apply BitVec.eq_of_getLsbD_eq
  intro i hi
  exact h i hi
theorem bt_big (a : Int32) {k : Nat} (h : 32 ≤ k) : Bt a k = false := by
  unfold Bt; exact BitVec.getLsbD_of_ge _ _ h
theorem bt_and (a b : Int32) (k : Nat) : Bt (a &&& b) k = (Bt a k && Bt b k) := by
  unfold Bt; rw [Int32.toBitVec_and, BitVec.getLsbD_and]
theorem bt_or (a b : Int32) (k : Nat) : Bt (a ||| b) k = (Bt a k || Bt b k) := by
  unfold Bt; rw [Int32.toBitVec_or, BitVec.getLsbD_or]
theorem bt_not (a : Int32) {k : Nat} (h : k < 32) : Bt (a ^^^ (-1)) k = !Bt a k := by
  unfold Bt
  rw [Int32.toBitVec_xor, BitVec.getLsbD_xor]
  have : (-1 : Int32).toBitVec = BitVec.allOnes 32 := by decide
  rw [this, BitVec.getLsbD_allOnes]
  simp [h]
theorem bt_0 (k : Nat) : Bt 0 k = false := by
  unfold Bt
  show (0#32).getLsbD k = false
  simp
theorem sh_amt : ∀ k, k < 32 → (((nI k &&& 31 : Int32)).toBitVec.smod 32).toNat = k := by decide +kernel
theorem pw_bt : ∀ k, k < 32 → ∀ j, j < 32 → Bt (pw (nI k)) j = decide (j = k) := by decide +kernel
theorem bt_pw {k : Nat} (h : k < 32) (j : Nat) : Bt (pw (nI k)) j = decide (j = k) := by
  by_cases hj : j < 32
  · exact pw_bt k h j hj
  · rw [bt_big _ (by omega)]
    have : ¬ j = k := by omega
    simp [this]
theorem bt_shr (s : Int32) {k : Nat} (h : k < 32) : Bt (s >>> (nI k &&& 31)) 0 = Bt s k := by
  unfold Bt
  rw [Int32.toBitVec_shiftRight, BitVec.sshiftRight_eq', sh_amt k h, BitVec.getLsbD_sshiftRight]
  simp [h]
theorem bt_1 : ∀ k, k < 32 → Bt 1 k = decide (k = 0) := by decide +kernel
theorem bt_bI (b : Bool) {k : Nat} (h : k < 32) : Bt (bI b) k = (b && decide (k = 0)) := by
  cases b
  · rw [bI_f, bt_0]; rfl
  · rw [bI_t, bt_1 k h]; rfl
/-- what the machine makes of 'set >> k & 1' -/
theorem tst (s : Int32) {k : Nat} (h : k < 32) : (s >>> (nI k &&& 31)) &&& 1 = bI (Bt s k) := by
  apply bt_ext
  intro i hi
  rw [bt_and, bt_bI _ hi, bt_1 i hi]
  by_cases h0 : i = 0
  · subst h0
    rw [bt_shr s h]
  · simp [h0]
def sm (f : Nat → Int32) : Nat → Int32
  | 0 => 0
  | n + 1 => sm f n + f n
theorem sm_0 (f : Nat → Int32) : sm f 0 = 0 := rfl
theorem sm_s (f : Nat → Int32) (n : Nat) : sm f (n + 1) = sm f n + f n := rfl
theorem sm_congr {f g : Nat → Int32} : ∀ {n : Nat}, (∀ k, k < n → f k = g k) → sm f n = sm g n
  | 0, _ => rfl
  | n + 1, h => by rw [sm_s, sm_s, sm_congr (fun k hk => h k (by omega)), h n (by omega)]
theorem i32_add_comm (a b : Int32) : a + b = b + a := Int32.add_comm a b
theorem i32_add_assoc (a b c : Int32) : a + b + c = a + (b + c) := Int32.add_assoc a b c
theorem sm_add (f g : Nat → Int32) : ∀ n, sm (fun k => f k + g k) n = sm f n + sm g n
  | 0 => by rw [sm_0, sm_0, sm_0]; rfl
  | n + 1 => by
    rw [sm_s, sm_s, sm_s, sm_add f g n, i32_add_assoc, i32_add_assoc, ← i32_add_assoc (sm g n), i32_add_comm (sm g n) (f n), i32_add_assoc]
theorem sm_zero : ∀ n, sm (fun _ => 0) n = 0
  | 0 => rfl
  | n + 1 => by rw [sm_s, sm_zero n]; rfl
/-- one place taken out -/
theorem sm_out (f : Nat → Int32) {k : Nat} : ∀ {n : Nat}, k < n → sm f n = sm (fun i => if i = k then 0 else f i) n + f k
  | 0, h => absurd h (by omega)
  | n + 1, h => by
    rw [sm_s, sm_s]
    by_cases hk : k = n
    · subst hk
      rw [sm_congr (f := f) (g := fun i => if i = k then 0 else f i) (fun i hi => by rw [if_neg (by omega)]), if_pos rfl]
      rw [Int32.add_zero]
    · rw [sm_out f (k := k) (n := n) (by omega), if_neg (by omega), i32_add_assoc, i32_add_assoc, i32_add_comm (f k)]
def mk (f : Nat → Bool) : Nat → Int32
  | 0 => 0
  | n + 1 => if f n then mk f n ||| pw (nI n) else mk f n
theorem mk_0 (f : Nat → Bool) : mk f 0 = 0 := rfl
theorem mk_t {f : Nat → Bool} {n : Nat} (h : f n = true) : mk f (n + 1) = mk f n ||| pw (nI n) := by rw [mk, h, if_pos rfl]
theorem mk_f {f : Nat → Bool} {n : Nat} (h : f n = false) : mk f (n + 1) = mk f n := by rw [mk, h, if_neg (by decide)]
theorem mk_i {f : Nat → Bool} {n : Nat} : mk f (n + 1) = mk f n ||| (if f n = true then pw (nI n) else 0) := by
  cases h : f n
  · rw [mk_f h, if_neg (by decide)]
    apply bt_ext; intro i hi; rw [bt_or, bt_0, Bool.or_false]
  · rw [mk_t h, if_pos rfl]
theorem bt_mk (f : Nat → Bool) (j : Nat) : ∀ n, n ≤ 32 → Bt (mk f n) j = (decide (j < n) && f j)
  | 0, _ => by rw [mk_0, bt_0]; simp
  | n + 1, h => by
    have ih := bt_mk f j n (by omega)
    cases hf : f n
    · rw [mk_f hf, ih]
      by_cases hj : j = n
      · subst hj; simp [hf]
      · have : (decide (j < n + 1)) = decide (j < n) := by
          apply decide_eq_decide.mpr; omega
        rw [this]
    · rw [mk_t hf, bt_or, ih, bt_pw (by omega)]
      by_cases hj : j = n
      · subst hj; simp [hf]
      · have : (decide (j < n + 1)) = decide (j < n) := by
          apply decide_eq_decide.mpr; omega
        rw [this]; simp [hj]
theorem mk_congr {f g : Nat → Bool} : ∀ {n : Nat}, (∀ k, k < n → f k = g k) → mk f n = mk g n
  | 0, _ => rfl
  | n + 1, h => by
    have h1 := mk_congr (f := f) (g := g) (n := n) (fun k hk => h k (by omega))
    rw [mk, mk, h1, h n (by omega)]
/-- a set of places below 12 -/
def lo12 (s : Int32) : Prop := ∀ k, 12 ≤ k → Bt s k = false
theorem lo12_mk (f : Nat → Bool) : lo12 (mk f 12) := fun k hk => by
  rw [bt_mk _ _ _ (by omega)]
  have : ¬ k < 12 := by omega
  simp [this]
theorem lo12_ext {a b : Int32} (ha : lo12 a) (hb : lo12 b) (h : ∀ k, k < 12 → Bt a k = Bt b k) : a = b := bt_ext fun k _ => by
  by_cases hk : k < 12
  · exact h k hk
  · rw [ha k (by omega), hb k (by omega)]
theorem lo12_and {a : Int32} (b : Int32) (ha : lo12 a) : lo12 (a &&& b) := fun k hk => by rw [bt_and, ha k hk]; rfl
theorem lo12_and2 (a : Int32) {b : Int32} (hb : lo12 b) : lo12 (a &&& b) := fun k hk => by rw [bt_and, hb k hk]; simp
theorem lo12_or {a b : Int32} (ha : lo12 a) (hb : lo12 b) : lo12 (a ||| b) := fun k hk => by rw [bt_or, ha k hk, hb k hk]; rfl
theorem lo12_0 : lo12 0 := fun k _ => bt_0 k
theorem lo12_pw : ∀ {k : Nat}, k < 12 → lo12 (pw (nI k)) := fun {k} h j hj => by
  rw [bt_pw (by omega)]
  have : ¬ j = k := by omega
  simp [this]
theorem mk_bt {s : Int32} (h : lo12 s) : mk (Bt s) 12 = s := lo12_ext (lo12_mk _) h fun k hk => by
  rw [bt_mk _ _ _ (by omega)]; simp [hk]
def anyb (f : Nat → Bool) : Nat → Bool
  | 0 => false
  | n + 1 => anyb f n || f n
theorem anyb_iff (f : Nat → Bool) : ∀ n, anyb f n = true ↔ ∃ k, k < n ∧ f k = true
  | 0 => by simp [anyb]
  | n + 1 => by
    rw [anyb, Bool.or_eq_true, anyb_iff f n]
    constructor
    · rintro (⟨k, h1, h2⟩ | h)
      · exact ⟨k, by omega, h2⟩
      · exact ⟨n, by omega, h⟩
    · rintro ⟨k, h1, h2⟩
      by_cases hk : k = n
      · subst hk; exact Or.inr h2
      · exact Or.inl ⟨k, by omega, h2⟩
theorem anyb_congr {f g : Nat → Bool} : ∀ {n : Nat}, (∀ k, k < n → f k = g k) → anyb f n = anyb g n
  | 0, _ => rfl
  | n + 1, h => by rw [anyb, anyb, anyb_congr (f := f) (g := g) (fun k hk => h k (by omega)), h n (by omega)]
/-! numbers -/
theorem nI_tn {n : Nat} (h : n < 2 ^ 31) : (nI n).toNatClampNeg = n := nI_clamp h
theorem nI_inj {a b : Nat} (ha : a < 2 ^ 31) (hb : b < 2 ^ 31) (h : nI a = nI b) : a = b := (nI_eq ha hb).mp h
theorem lit (n : Nat) : (OfNat.ofNat n : Int32) = nI n := rfl
/-- a number from 0 to below n -/
theorem nI_of_lt {x : Int32} {n : Nat} (hn : n < 2 ^ 31) (h0 : ¬ x < 0) (h1 : x < nI n) : ∃ j : Nat, j < n ∧ x = nI j := by
  obtain ⟨j, hj, rfl⟩ := nI_of h0
  exact ⟨j, (nI_ltI hj hn).mp h1, rfl⟩
