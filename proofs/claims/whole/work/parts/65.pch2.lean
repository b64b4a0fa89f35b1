/-! changes: pledges made and taken back -/
theorem mSt_slot {s : Nat → Int32} {k : Nat} {i j a kd v : Int32} (k' f : Nat) (hf : f < 8) : sF (mSt s k i j a kd v) k' f = if k' = k then (if f = 0 then 1 else if f = 1 then i else if f = 2 then j else if f = 3 then a else if f = 4 then kd else if f = 5 then v else if f = 6 then 0 else s 2) else sF s k' f := by
  unfold sF mSt
  rw [upd_ne (by omega)]
  by_cases hk : k' = k
  · subst hk
    rw [if_pos rfl]
    match f, hf with
    | 0, _ => rw [upd_ne (by omega), upd_ne (by omega), upd_ne (by omega), upd_ne (by omega), upd_ne (by omega), upd_ne (by omega), upd_ne (by omega), upd_eq]; rfl
    | 1, _ => rw [upd_ne (by omega), upd_ne (by omega), upd_ne (by omega), upd_ne (by omega), upd_ne (by omega), upd_ne (by omega), upd_eq]; rfl
    | 2, _ => rw [upd_ne (by omega), upd_ne (by omega), upd_ne (by omega), upd_ne (by omega), upd_ne (by omega), upd_eq]; rfl
    | 3, _ => rw [upd_ne (by omega), upd_ne (by omega), upd_ne (by omega), upd_ne (by omega), upd_eq]; rfl
    | 4, _ => rw [upd_ne (by omega), upd_ne (by omega), upd_ne (by omega), upd_eq]; rfl
    | 5, _ => rw [upd_ne (by omega), upd_ne (by omega), upd_eq]; rfl
    | 6, _ => rw [upd_ne (by omega), upd_eq]; rfl
    | 7, _ => rw [upd_eq]; rfl
  · rw [if_neg hk, upd_ne (by omega), upd_ne (by omega), upd_ne (by omega), upd_ne (by omega), upd_ne (by omega), upd_ne (by omega), upd_ne (by omega), upd_ne (by omega)]
theorem mSt_lo {s : Nat → Int32} {k q : Nat} {i j a kd v : Int32} (h : q < 29) (h2 : q ≠ 2) : mSt s k i j a kd v q = s q := by
  unfold mSt
  rw [upd_ne (by omega), upd_ne (by omega), upd_ne (by omega), upd_ne (by omega), upd_ne (by omega), upd_ne (by omega), upd_ne (by omega), upd_ne (by omega), upd_ne (by omega)]
theorem free_sm {P : Pl} {s : Nat → Int32} {mm : Nat} (h : Sim P s) (hI : Inv s mm) : lf (fun k => decide (sF s k 0 = 0)) 0 12 = lf (fun k => !Bt (live P) k) 0 12 := by
  obtain ⟨np, nq, τ, -, -, -, -, -, -, hz, -⟩ := hI
  refine lf_congr fun k _ hk => ?_
  rw [h.lb (by omega)]
  cases ht : sThere s k
  · rw [decide_eq_true (hz k (by omega) ht)]; rfl
  · have h1 : sF s k 0 = 1 := of_decide_eq_true ht
    rw [h1]; rfl
theorem KC_of {np nq : Nat} {i j kd v : Int32} (h4 : np ≤ 4) (h8 : nq ≤ 8) (h : cOK (nI np) (nI nq) i j kd v = true) : kd = 0 ∨ kd = 1 ∨ kd = 2 ∨ (kd = 3 ∧ ∃ w, w < 8 ∧ v = nI w) ∨ (kd = 4 ∧ ∃ w, w < 4 ∧ v = nI w) := by
  unfold cOK at h
  by_cases h0 : kd = 0
  · exact Or.inl h0
  by_cases h1 : kd = 1
  · exact Or.inr (Or.inl h1)
  by_cases h2 : kd = 2
  · exact Or.inr (Or.inr (Or.inl h2))
  by_cases h3 : kd = 3
  · rw [if_neg h0, if_neg h1, if_neg h2, if_pos h3, Bool.and_eq_true] at h
    obtain ⟨w, hw, e⟩ := rng_pred (by omega) h.1
    exact Or.inr (Or.inr (Or.inr (Or.inl ⟨h3, w, by omega, e⟩)))
  by_cases h4' : kd = 4
  · rw [if_neg h0, if_neg h1, if_neg h2, if_neg h3, if_pos h4', Bool.and_eq_true] at h
    obtain ⟨w, hw, e⟩ := rng_pred (by omega) h.1
    exact Or.inr (Or.inr (Or.inr (Or.inr ⟨h4', w, by omega, e⟩)))
  · rw [if_neg h0, if_neg h1, if_neg h2, if_neg h3, if_neg h4'] at h
    cases h
theorem rng_1 {a : Int32} (h : rng 1 a 999 = true) : ∃ n, 1 ≤ n ∧ n ≤ 999 ∧ a = nI n := by
  unfold rng at h
  rw [Bool.and_eq_true] at h
  have h1 := of_decide_eq_true h.1
  have h9 := of_decide_eq_true h.2
  obtain ⟨G, hG, rfl⟩ := nI_of (x := a) (fun q => absurd (Int32.lt_of_lt_of_le q (by decide : (0 : Int32) ≤ 1)) (le_n h1))
  exact ⟨G, (nI_leI (a := 1) (by decide) hG).mp h1, (nI_leI (b := 999) hG (by decide)).mp h9, rfl⟩
theorem mk_sm {P : Pl} {s : Nat → Int32} {mm : Nat} {i t a kd v : Int32} (h : Sim P s) (hI : Inv s mm) : (cMk P i t a kd v).1 = (mMk s i t a kd v).1 ∧ Sim (cMk P i t a kd v).2 (mMk s i t a kd v).2 ∧ ∃ m', m' ≤ mm + 1 ∧ Inv (mMk s i t a kd v).2 m' := by
  have hI0 := hI
  have h0 := h
  obtain ⟨np, nq, τ, h4, h8, e0, e1, e2, hG, hz, hp, hj⟩ := hI
  have same : ∀ r : Int32, (r, P).1 = (r, s).1 ∧ Sim (r, P).2 (r, s).2 ∧ ∃ m', m' ≤ mm + 1 ∧ Inv (r, s).2 m' := fun r => ⟨rfl, h, mm, by omega, hI0⟩
  unfold cMk mMk
  rw [hpe_rng (h.1.2.2.1.trans e1) (by omega), hpj_rng (h.1.1.trans e0) (by omega), h.1.2.2.1, h.1.1]
  by_cases hc : (rng 0 i (s 1 - 1) && (rng 0 t (s 0 - 1) && (rng 1 a 999 && cOK (s 0) (s 1) i t kd v))) = true
  · rw [if_pos hc, if_pos hc]
    rw [Bool.and_eq_true, Bool.and_eq_true, Bool.and_eq_true] at hc
    obtain ⟨ci, cj, ca, ck⟩ := hc
    rw [e1] at ci
    rw [e0] at cj
    obtain ⟨ii, hii, rfl⟩ := rng_pred (by omega) ci
    obtain ⟨jj, hjj, rfl⟩ := rng_pred (by omega) cj
    obtain ⟨aa, ha1, ha9, rfl⟩ := rng_1 ca
    rw [nI_tn (by omega), nI_tn (by omega)]
    have eb : Bt (P 2 0) jj = decide (s (5 + 2 * jj + 1) = 1) := by rw [h.1.2.1, closed_bt s (by omega)]
    have ep : P 4 ii = s (13 + 2 * ii) := (h.2.2.1 ii (by omega)).1
    have ea : amt P (ofP P (nI ii) &&& P 6 0) = amt (vP s) (ofP (vP s) (nI ii) &&& vP s 6 0) := by
      rw [ofP_sm h, ← h.1.2.2.2.1, amt_sm h (sb_and _ sb_of')]
    rw [eb, ep, ea]
    by_cases hc2 : (decide (s (5 + 2 * jj + 1) = 1) || decide (s (13 + 2 * ii) < amt (vP s) (ofP (vP s) (nI ii) &&& vP s 6 0) + nI aa)) = true
    · rw [if_pos hc2, if_pos hc2]; exact same _
    · rw [if_neg hc2, if_neg hc2]
      have hncl : decide (s (5 + 2 * jj + 1) = 1) = false := by
        cases hd : decide (s (5 + 2 * jj + 1) = 1)
        · rfl
        · rw [hd] at hc2; exact absurd rfl hc2
      have ef : frees s = lf (fun k => !Bt (live P) k) 0 12 := free_sm h hI0
      unfold lfn
      rw [ef]
      rcases lf_cases (fun k => !Bt (live P) k) 12 0 with q | ⟨k, -, hk, ek, hkl, -⟩
      · rw [q, if_pos rfl, if_pos (Int32.le_refl _), if_pos (by decide)]; exact same _
      · rw [ek, if_neg (show ¬ nI k = -1 from fun q => absurd (show nI k < 0 by rw [q]; decide) (nI_pos (by omega))), if_neg (show ¬ (12 : Int32) ≤ nI k from nI_ge (a := k) (b := 12) (by omega) (by decide)), if_neg (nI_pos (show k < 2 ^ 31 by omega)), nI_tn (by omega)]
        have hk12 : k < 12 := by omega
        have hnt : sThere s k = false := by
          rw [← h.lb hk12]
          cases hb : Bt (live P) k
          · rfl
          · rw [hb] at hkl; cases hkl
        have hF := fun (k' f : Nat) (hf : f < 8) => mSt_slot (s := s) (k := k) (i := nI ii) (j := nI jj) (a := nI aa) (kd := kd) (v := v) k' f hf
        have hlo := fun (q : Nat) (h1 : q < 29) (h2 : q ≠ 2) => mSt_lo (s := s) (k := k) (i := nI ii) (j := nI jj) (a := nI aa) (kd := kd) (v := v) h1 h2
        have h2' : mSt s k (nI ii) (nI jj) (nI aa) kd v 2 = s 2 + 1 := upd_eq
        have hth : ∀ k', sThere (mSt s k (nI ii) (nI jj) (nI aa) kd v) k' = (decide (k' = k) || sThere s k') := fun k' => by
          unfold sThere
          rw [hF k' 0 (by decide)]
          by_cases hkk : k' = k
          · rw [if_pos hkk, if_pos rfl, decide_eq_true hkk]; rfl
          · rw [if_neg hkk, decide_eq_false hkk, Bool.false_or]
        have hca : ∀ k', sCalled (mSt s k (nI ii) (nI jj) (nI aa) kd v) k' = (!decide (k' = k) && sCalled s k') := fun k' => by
          unfold sCalled
          rw [hF k' 6 (by decide)]
          by_cases hkk : k' = k
          · rw [if_pos hkk, decide_eq_true hkk]; rfl
          · rw [if_neg hkk, decide_eq_false hkk, Bool.not_false, Bool.true_and]
        have hthk : ∀ k', k' < 12 → sThere (mSt s k (nI ii) (nI jj) (nI aa) kd v) k' = true → k' ≠ k → sThere s k' = true := fun k' _ q hne => by
          rw [hth, decide_eq_false hne, Bool.false_or] at q; exact q
        obtain ⟨⟨s0, s2, s3, s6, s7, s14, s15, s16⟩, q1, q4, q8⟩ := h
        have lk : ∀ (g : Nat → Int32) (x : Int32) (k' : Nat), k' ≠ k → upd g k x k' = g k' := fun g x k' hne => upd_ne hne
        obtain ⟨τ', t1, t2⟩ : ∃ τ' : Nat → Nat, τ' k = mm ∧ ∀ k', k' ≠ k → τ' k' = τ k' := ⟨fun k' => if k' = k then mm else τ k', if_pos rfl, fun k' h => if_neg h⟩
        have k1 : sF (mSt s k (nI ii) (nI jj) (nI aa) kd v) k 1 = nI ii := (hF k 1 (by decide)).trans (if_pos rfl)
        have k2 : sF (mSt s k (nI ii) (nI jj) (nI aa) kd v) k 2 = nI jj := (hF k 2 (by decide)).trans (if_pos rfl)
        have k3 : sF (mSt s k (nI ii) (nI jj) (nI aa) kd v) k 3 = nI aa := (hF k 3 (by decide)).trans (if_pos rfl)
        have k4 : sF (mSt s k (nI ii) (nI jj) (nI aa) kd v) k 4 = kd := (hF k 4 (by decide)).trans (if_pos rfl)
        have k5 : sF (mSt s k (nI ii) (nI jj) (nI aa) kd v) k 5 = v := (hF k 5 (by decide)).trans (if_pos rfl)
        have k7 : sF (mSt s k (nI ii) (nI jj) (nI aa) kd v) k 7 = s 2 := (hF k 7 (by decide)).trans (if_pos rfl)
        refine ⟨rfl, show Sim (cSt P k (nI ii) (nI jj) (nI aa) kd v) (mSt s k (nI ii) (nI jj) (nI aa) kd v) from ⟨⟨?_, ?_, ?_, ?_, ?_, ?_, ?_, ?_⟩, fun k' hk' => ?_, fun k' hk' => ⟨?_, ?_⟩, fun k' hk' ht => ?_⟩, mm + 1, Nat.le_refl _, show Inv (mSt s k (nI ii) (nI jj) (nI aa) kd v) (mm + 1) from ⟨np, nq, τ', h4, h8, ?_, ?_, ?_, fun j hjn => ?_, fun k' hk' ht => ?_, fun k' hk' ht => ?_, fun k' j' hk' hj' ht ht' => ?_⟩⟩
        · exact s0.trans (hlo 0 (by decide) (by decide)).symm
        · exact s2.trans (vP2_cg fun j hj => hlo _ (by omega) (by omega)).symm
        · exact s3.trans (hlo 1 (by decide) (by decide)).symm
        · show P 6 0 ||| pw (nI k) = _
          rw [s6]
          refine lo12_ext (lo12_or (open_lo s) (lo12_pw hk12)) (open_lo _) fun k' hk' => ?_
          rw [bt_or, bt_pw (by omega), open_bt s hk', open_bt _ hk', hth, hca]
          by_cases hkk : k' = k
          · rw [hkk, decide_eq_true rfl]; simp
          · rw [decide_eq_false hkk]; simp
        · show P 7 0 = _
          rw [s7]
          refine lo12_ext (called_lo s) (called_lo _) fun k' hk' => ?_
          rw [called_bt s hk', called_bt _ hk', hth, hca]
          by_cases hkk : k' = k
          · rw [hkk, decide_eq_true rfl, hnt]; simp
          · rw [decide_eq_false hkk]; simp
        · show P 14 0 + 1 = _
          rw [h2', s14]
        · exact s15.trans (hlo 3 (by decide) (by decide)).symm
        · exact s16.trans (hlo 4 (by decide) (by decide)).symm
        · exact (q1 k' hk').trans (hlo _ (by omega) (by omega)).symm
        · exact (q4 k' hk').1.trans (hlo _ (by omega) (by omega)).symm
        · exact (q4 k' hk').2.trans (hlo _ (by omega) (by omega)).symm
        · unfold SL
          show upd (P 8) k (nI ii) k' = _ ∧ upd (P 9) k (nI jj) k' = _ ∧ upd (P 10) k (nI aa) k' = _ ∧ upd (P 11) k kd k' = _ ∧ upd (P 12) k v k' = _ ∧ upd (P 13) k (P 14 0) k' = _
          by_cases hkk : k' = k
          · rw [hkk, k1, k2, k3, k4, k5, k7, upd_eq, upd_eq, upd_eq, upd_eq, upd_eq, upd_eq]
            exact ⟨rfl, rfl, rfl, rfl, rfl, s14⟩
          · rw [hF k' 1 (by decide), hF k' 2 (by decide), hF k' 3 (by decide), hF k' 4 (by decide), hF k' 5 (by decide), hF k' 7 (by decide), if_neg hkk, if_neg hkk, if_neg hkk, if_neg hkk, if_neg hkk, if_neg hkk, upd_ne hkk, upd_ne hkk, upd_ne hkk, upd_ne hkk, upd_ne hkk, upd_ne hkk]
            exact q8 k' hk' (hthk k' hk' ht hkk)
        · exact (hlo 0 (by decide) (by decide)).trans e0
        · exact (hlo 1 (by decide) (by decide)).trans e1
        · rw [h2', e2, nI_succ]
        · rw [hlo _ (by omega) (by omega)]; exact hG j hjn
        · rw [hth, Bool.or_eq_false_iff] at ht
          rw [hF k' 0 (by decide), if_neg (of_decide_eq_false ht.1)]
          exact hz k' hk' ht.2
        · by_cases hkk : k' = k
          · rw [hkk]
            refine ⟨⟨ii, hii, ?_⟩, ⟨jj, hjj, ?_, ?_⟩, ⟨aa, ha1, ha9, ?_⟩, ?_, ?_, ?_⟩
            · exact k1
            · exact k2
            · rw [hca, decide_eq_true rfl, Bool.not_true, Bool.false_and, hlo _ (by omega) (by omega), hncl]
            · exact k3
            · unfold KC
              rw [k4, k5]
              rw [e0, e1] at ck
              exact KC_of h4 h8 ck
            · rw [k7, t1]; exact e2
            · rw [t1]; omega
          · have hp' := hp k' hk' (hthk k' hk' ht hkk)
            have hp2 := PKt.cg (s' := mSt s k (nI ii) (nI jj) (nI aa) kd v) (np' := np) (nq' := nq) (fun f hf => by rw [hF k' f hf, if_neg hkk]) (fun j hjn => hlo _ (by omega) (by omega)) (Nat.le_refl _) (Nat.le_refl _) hp'
            obtain ⟨b1, b2, b3, b4, b5, b6⟩ := hp2
            exact ⟨b1, b2, b3, b4, by rw [t2 _ hkk]; exact b5, by rw [t2 _ hkk]; omega⟩
        · by_cases hkk : k' = k
          · by_cases hjk : j' = k
            · exact fun _ => hkk.trans hjk.symm
            · intro q
              rw [hkk, t1, t2 _ hjk] at q
              have := (hp j' hj' (hthk j' hj' ht' hjk)).2.2.2.2.2
              omega
          · by_cases hjk : j' = k
            · intro q
              rw [hjk, t1, t2 _ hkk] at q
              have := (hp k' hk' (hthk k' hk' ht hkk)).2.2.2.2.2
              omega
            · intro q
              rw [t2 _ hkk, t2 _ hjk] at q
              exact hj k' j' hk' hj' (hthk k' hk' ht hkk) (hthk j' hj' ht' hjk) q
  · rw [if_neg hc, if_neg hc]; exact same _
