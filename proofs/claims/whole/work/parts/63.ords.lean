/-! orders: keys against comparisons -/
theorem sub_neg {a b : Nat} (ha : a < 2 ^ 30) (hb : b < 2 ^ 30) : decide (nI a - nI b < 0) = decide (a < b) := by
  apply decide_eq_decide.mpr
  rw [Int32.lt_iff_toInt_lt, pk_sub_toInt ha hb]
  show _ < (0 : Int32).toInt ↔ _
  rw [show (0 : Int32).toInt = 0 by decide]
  omega
theorem sub_zero {a b : Nat} (ha : a < 2 ^ 30) (hb : b < 2 ^ 30) : decide (nI a - nI b = 0) = decide (a = b) := by
  apply decide_eq_decide.mpr
  constructor
  · intro q
    have h1 := pk_sub_toInt ha hb
    rw [q, show (0 : Int32).toInt = 0 by decide] at h1
    omega
  · intro q; rw [q]; exact Int32.sub_self _
theorem key_or {a t : Nat} (ha : a < 2 ^ 20) (ht : t < 2 ^ 20) : ((nI a).toInt64 <<< ((20 : Int32).toInt64 &&& 63)) ||| (nI t).toInt64 = lN (a * 2 ^ 20 + t) := by
  rw [nI_l (by omega), nI_l (by omega), show (20 : Int32) = nI 20 from rfl]
  have e1 : lN a <<< ((nI 20).toInt64 &&& 63) = lN (a * 2 ^ 20) := by
    apply Int64.toBitVec_inj.mp
    rw [Int64.toBitVec_shiftLeft]
    have e2 : (((nI 20).toInt64 &&& 63).toBitVec.smod 64) = 20#64 := by decide +kernel
    rw [e2]
    show (BitVec.ofNat 64 a) <<< (20#64 : BitVec 64) = BitVec.ofNat 64 (a * 2 ^ 20)
    apply BitVec.eq_of_toNat_eq
    rw [BitVec.shiftLeft_eq', BitVec.toNat_shiftLeft, BitVec.toNat_ofNat, BitVec.toNat_ofNat]
    rw [show (20 % 2 ^ 64 : Nat) = 20 from rfl, Nat.shiftLeft_eq, Nat.mod_eq_of_lt (by omega : a < 2 ^ 64), BitVec.toNat_ofNat]
  rw [e1]
  apply Int64.toBitVec_inj.mp
  rw [Int64.toBitVec_or]
  show BitVec.ofNat 64 (a * 2 ^ 20) ||| BitVec.ofNat 64 t = BitVec.ofNat 64 (a * 2 ^ 20 + t)
  apply BitVec.eq_of_toNat_eq
  rw [BitVec.toNat_or, BitVec.toNat_ofNat, BitVec.toNat_ofNat, BitVec.toNat_ofNat, Nat.mod_eq_of_lt (by omega), Nat.mod_eq_of_lt (by omega), Nat.mod_eq_of_lt (by omega)]
  have := Nat.shiftLeft_add_eq_or_of_lt ht a
  rw [Nat.shiftLeft_eq] at this
  exact this.symm
theorem lex {a b t u : Nat} (ht : t < 2 ^ 20) (hu : u < 2 ^ 20) : a * 2 ^ 20 + t < b * 2 ^ 20 + u ↔ a < b ∨ (a = b ∧ t < u) := by omega
theorem lex12 {a b t u : Nat} (ht : t < 12) (hu : u < 12) : a * 12 + t < b * 12 + u ↔ a < b ∨ (a = b ∧ t < u) := by omega
section OR
variable {P : Pl} {s : Nat → Int32} {x : Ex} {mm : Nat}
/-- who stands has no wave -/
theorem wv_std (h : Sim P s) {k : Nat} (hk : k < 12) (ht : sThere s k = true) : ∃ m, m ≤ 12 ∧ wvm P noX (P 6 0) (P 7 0) (fun _ => 0) 12 k = nI m ∧ (m = 0 ↔ Bt (std P noX 0) k = true) := by
  have key : ∀ n, (∃ m, 1 ≤ m ∧ m ≤ n ∧ wvm P noX (P 6 0) (P 7 0) (fun _ => 0) n k = nI m ∧ Bt (gs P noX (P 7 0) n (P 6 0)) k = false ∧ Bt (P 6 0) k = true) ∨ (wvm P noX (P 6 0) (P 7 0) (fun _ => 0) n k = nI 0 ∧ Bt (gs P noX (P 7 0) n (P 6 0)) k = Bt (P 6 0) k) := by
    intro n
    induction n with
    | zero => exact Or.inr ⟨rfl, rfl⟩
    | succ n ih =>
      rcases ih with ⟨m, h1, h2, h3, h4, h5⟩ | ⟨h3, h4⟩
      · refine Or.inl ⟨m, h1, by omega, ?_, ?_, h5⟩
        · rw [wvm_s, fal_bt, h4, Bool.false_and, Bool.and_false, Bool.and_false, if_neg Bool.false_ne_true]; exact h3
        · rw [gs_s, bt_and, h4]; rfl
      · cases hf : Bt (fal P noX (gs P noX (P 7 0) n (P 6 0)) (P 7 0)) k
        · refine Or.inr ⟨?_, ?_⟩
          · rw [wvm_s, hf, Bool.and_false, if_neg Bool.false_ne_true]; exact h3
          · rw [gs_s, bt_and, bt_not _ (by omega), hf, h4]; simp
        · refine Or.inl ⟨n + 1, by omega, Nat.le_refl _, ?_, ?_, ?_⟩
          · rw [wvm_s, hf, decide_eq_true hk]; rfl
          · rw [gs_s, bt_and, bt_not _ (by omega), hf]; simp
          · rw [← h4]; exact (fal_sub hf).2
  have e : Bt (std P noX 0) k = (Bt (gs P noX (P 7 0) 12 (P 6 0)) k || Bt (P 7 0) k) := by
    rw [std_0, bt_or]; rfl
  have e6 : Bt (P 6 0) k = !sCalled s k := by rw [h.1.2.2.2.1, open_bt s hk, ht, Bool.true_and]
  have e7 : Bt (P 7 0) k = sCalled s k := by rw [h.1.2.2.2.2.1, called_bt s hk, ht, Bool.true_and]
  rw [e, e7]
  rcases key 12 with ⟨m, h1, h2, h3, h4, h5⟩ | ⟨h3, h4⟩
  · refine ⟨m, h2, h3, ⟨fun q => absurd h1 (by omega), fun q => ?_⟩⟩
    rw [e6] at h5
    rw [h4, Bool.false_or] at q
    rw [q] at h5; cases h5
  · refine ⟨0, by omega, h3, ⟨fun _ => ?_, fun _ => rfl⟩⟩
    rw [h4, e6]
    cases sCalled s k <;> rfl
theorem wav_sm (h : Sim P s) (hI : Inv s mm) (hx : x.1 = -1) (k : Nat) : wav (vP s) x k = wvm P noX (P 6 0) (P 7 0) (fun _ => 0) 12 k := by
  unfold wav wvP
  rw [and_not0, ← h.1.2.2.2.1, ← h.1.2.2.2.2.1, wvm_sm h hI hx (sb_op P) (sb_ca P)]
def vW (m : Nat) : Nat := if m = 0 then 100 else m
def rW (m : Nat) : Nat := if m = 0 then 0 else 13 - m
theorem vW_rW {a b : Nat} (ha : a ≤ 12) (hb : b ≤ 12) : (vW b < vW a ↔ rW a < rW b) ∧ (vW a = vW b ↔ rW a = rW b) := by
  unfold vW rW
  by_cases h1 : a = 0
  · by_cases h2 : b = 0
    · rw [if_pos h1, if_pos h2, if_pos h1, if_pos h2]; omega
    · rw [if_pos h1, if_neg h2, if_pos h1, if_neg h2]; omega
  · by_cases h2 : b = 0
    · rw [if_neg h1, if_pos h2, if_neg h1, if_pos h2]; omega
    · rw [if_neg h1, if_neg h2, if_neg h1, if_neg h2]; omega
theorem ahd_key (h : Sim P s) (hI : Inv s mm) (hm : mm ≤ 2 ^ 20) (hx : x.1 = -1) {o k : Nat} (ho : o < 12) (hk : k < 12) (hto : sThere s o = true) (htk : sThere s k = true) (ord : Int32) : ahd s (wav (vP s) x) o k ord (std (vP s) x 0) = decide (kyO P ord o < kyO P ord k) := by
  obtain ⟨wo, hwo, ewo, iwo⟩ := wv_std h ho hto
  obtain ⟨wk, hwk, ewk, iwk⟩ := wv_std h hk htk
  have hI0 := hI
  obtain ⟨np, nq, τ, h4, h8, -, -, -, -, -, hp, -⟩ := hI
  obtain ⟨⟨io, hio, eio⟩, ⟨jo, hjo, ejo, -⟩, ⟨ao, hao, hao9, eao⟩, -, eto, hlo⟩ := hp o ho hto
  obtain ⟨⟨ik, hik, eik⟩, ⟨jk, hjk, ejk, -⟩, ⟨ak, hak, hak9, eak⟩, -, etk, hlk⟩ := hp k hk htk
  obtain ⟨so8, so9, so10, -, -, so13⟩ := h.2.2.2 o ho hto
  obtain ⟨sk8, sk9, sk10, -, -, sk13⟩ := h.2.2.2 k hk htk
  unfold ahd kyO
  by_cases h0 : ord = 0
  · rw [if_pos h0, if_pos h0, if_pos h0, so10, sk10, so13, sk13, eao, eak, eto, etk]
    rw [show (999 : Int32) - nI ao = nI (999 - ao) from pk_sub (by omega), show (999 : Int32) - nI ak = nI (999 - ak) from pk_sub (by omega), key_or (by omega) (by omega), key_or (by omega) (by omega)]
    rw [sub_neg (by omega) (by omega), sub_zero (by omega) (by omega), sub_neg (by omega) (by omega)]
    apply Bool.eq_iff_iff.mpr
    rw [decide_eq_true_eq, pk_lLT (by omega) (by omega), lex (by omega) (by omega), Bool.or_eq_true, Bool.and_eq_true, decide_eq_true_eq, decide_eq_true_eq, decide_eq_true_eq]
    omega
  · rw [if_neg h0, if_neg h0, if_neg h0]
    by_cases h1 : ord = 1
    · rw [if_pos h1, if_pos h1, if_pos h1, std_sm h hI0 hx, wav_sm h hI0 hx, wav_sm h hI0 hx, ewo, ewk]
      have ev : ∀ (q w : Nat), (w = 0 ↔ Bt (std P noX 0) q = true) → (if Bt (std P noX 0) q = true then (100 : Int32) else nI w) = nI (vW w) := by
        intro q w hw
        unfold vW
        by_cases hz : w = 0
        · rw [if_pos (hw.mp hz), if_pos hz]; rfl
        · rw [if_neg (fun q => hz (hw.mpr q)), if_neg hz]
      have er : ∀ (w q : Nat), w ≤ 12 → q < 12 → (if nI w = 0 then (0 : Int32) else 13 - nI w).toInt64 * 12 + (nI q).toInt64 = lN (rW w * 12 + q) := by
        intro w q hw hq
        have e1 : (if nI w = 0 then (0 : Int32) else 13 - nI w) = nI (rW w) := by
          unfold rW
          by_cases hz : w = 0
          · rw [if_pos hz, hz]; exact if_pos rfl
          · rw [if_neg hz, if_neg (nI_ne0 (by omega) (by omega))]; exact pk_sub (a := 13) (by omega)
        have hr : rW w ≤ 13 := by unfold rW; split <;> omega
        rw [e1, nI_l (by omega), nI_l (by omega), show (12 : Int64) = lN 12 from rfl, lN_mul, lN_add]
      rw [ev k wk iwk, ev o wo iwo, er wo o hwo ho, er wk k hwk hk]
      have hvo : vW wo ≤ 100 := by unfold vW; split <;> omega
      have hvk : vW wk ≤ 100 := by unfold vW; split <;> omega
      have hro : rW wo ≤ 13 := by unfold rW; split <;> omega
      have hrk : rW wk ≤ 13 := by unfold rW; split <;> omega
      apply Bool.eq_iff_iff.mpr
      rw [decide_eq_true_eq, pk_lLT (by omega) (by omega), lex12 ho hk, Bool.or_eq_true, Bool.and_eq_true, decide_eq_true_eq, decide_eq_true_eq, decide_eq_true_eq, nI_ltI (by omega) (by omega), nI_eq (by omega) (by omega), nI_ltI (by omega) (by omega), (vW_rW hwo hwk).1, (vW_rW hwo hwk).2]
    · rw [if_neg h1, if_neg h1, if_neg h1, so8, so9, sk8, sk9, so13, sk13, eio, eik, ejo, ejk, eto, etk]
      rw [show nI jo * 8 + nI io = nI (jo * 8 + io) by rw [show (8 : Int32) = nI 8 from rfl, pk_mul, nI_add], show nI jk * 8 + nI ik = nI (jk * 8 + ik) by rw [show (8 : Int32) = nI 8 from rfl, pk_mul, nI_add], key_or (by omega) (by omega), key_or (by omega) (by omega)]
      rw [sub_neg (by omega) (by omega), sub_zero (by omega) (by omega), sub_neg (by omega) (by omega), sub_zero (by omega) (by omega), sub_neg (by omega) (by omega)]
      apply Bool.eq_iff_iff.mpr
      rw [decide_eq_true_eq, pk_lLT (by omega) (by omega), lex (by omega) (by omega), Bool.or_eq_true, Bool.and_eq_true, Bool.or_eq_true, Bool.and_eq_true, decide_eq_true_eq, decide_eq_true_eq, decide_eq_true_eq, decide_eq_true_eq, decide_eq_true_eq]
      omega
theorem rnk_sm (h : Sim P s) (hI : Inv s mm) (hm : mm ≤ 2 ^ 20) (hx : x.1 = -1) {k : Nat} (hk : k < 12) (htk : sThere s k = true) (ord : Int32) : rnk s x ord k = krk P ord k := by
  unfold rnk krk
  refine sm_congr fun o ho => ?_
  rw [h.lb ho]
  cases hto : sThere s o
  · rw [Bool.false_and, Bool.false_and, Bool.and_false]
  · rw [Bool.true_and, Bool.true_and]
    by_cases hok : o = k
    · subst hok
      rw [decide_eq_true rfl, Bool.not_true, Bool.false_and, decide_eq_false (Int64.lt_irrefl)]
    · rw [decide_eq_false hok, Bool.not_false, Bool.true_and, ahd_key h hI hm hx ho hk hto htk]
theorem lf_congr {f g : Nat → Bool} : ∀ {n i : Nat}, (∀ k, i ≤ k → k < i + n → f k = g k) → lf f i n = lf g i n
  | 0, _, _ => rfl
  | n + 1, i, h => by rw [lf, lf, h i (Nat.le_refl _) (by omega), lf_congr (fun k h1 h2 => h k (by omega) (by omega))]
theorem or_sm (h : Sim P s) (hI : Inv s mm) (hm : mm ≤ 2 ^ 20) (hx : x.1 = -1) (ord pl : Int32) : qOr s x ord pl = cOr P ord pl := by
  have e : lf (ord1 s x ord pl) 0 12 = lf (cOr1 P ord pl) 0 12 := lf_congr fun k _ hk => by
    unfold ord1 cOr1
    rw [h.lb (by omega)]
    cases ht : sThere s k
    · rw [Bool.false_and, Bool.false_and]
    · rw [rnk_sm h hI hm hx (by omega) ht]
  unfold qOr cOr
  rw [e]
end OR
