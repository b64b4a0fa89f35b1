/-! changes: pledges taken back, projects called in -/
theorem hpl_sm {P : Pl} {s : Nat → Int32} (h : Sim P s) (v : Int32) : hpl P v = isPl s v := by
  by_cases hr : rng 0 v 11 = true
  · obtain ⟨k, hk, rfl⟩ := rng_nat (n := 11) (by decide) hr
    rw [hpl_k (by omega), h.lb (by omega)]
    unfold isPl
    rw [hr, nI_tn (by omega)]; rfl
  · have e2 : isPl s v = false := by unfold isPl; rw [show rng 0 v 11 = false by simpa using hr]; rfl
    rw [e2]
    cases hb : hpl P v
    · rfl
    · obtain ⟨k, hk, rfl, -⟩ := hpl_of hb
      exact absurd (rng_of (n := 11) (by decide) (show k ≤ 11 by omega)) hr
theorem cut_same {A B C : Int32} (h : ∀ k, k < 32 → Bt A k = true → Bt C k = false) : A &&& (B ^^^ (-1)) = (A ||| C) &&& ((B ||| C) ^^^ (-1)) := by
  apply bt_ext; intro k hk
  rw [bt_and, bt_and, bt_not _ hk, bt_not _ hk, bt_or, bt_or]
  cases ha : Bt A k
  · cases Bt C k <;> simp
  · rw [h k hk ha]; simp
theorem oc_dis {P : Pl} {s : Nat → Int32} (h : Sim P s) {k : Nat} (hb : Bt (P 6 0) k = true) : Bt (P 7 0) k = false := by
  rw [h.1.2.2.2.1] at hb
  rw [h.1.2.2.2.2.1]
  by_cases hk : k < 12
  · rw [open_bt s hk, Bool.and_eq_true] at hb
    rw [called_bt s hk]
    cases hc : sCalled s k
    · rw [Bool.and_false]
    · rw [hc] at hb; exact absurd hb.2 (by decide)
  · exact called_lo s k (by omega)
theorem sWdr_slot {s : Nat → Int32} {k : Nat} (k' f : Nat) (hf : f < 8) : sF (sWdr s k) k' f = if k' = k then 0 else sF s k' f := by
  unfold sWdr
  by_cases hk : k' = k
  · rw [if_pos hk, hk]; exact sF_fgt0 hf
  · rw [if_neg hk]; exact sF_fgt hf hk
theorem sWdr_lo {s : Nat → Int32} {k q : Nat} (h : q < 29) (h3 : q ≠ 3) : sWdr s k q = s q := by
  unfold sWdr fgt
  rw [upd_ne h3, if_neg (by omega)]
theorem wd_sm {P : Pl} {s : Nat → Int32} {mm : Nat} {x : Ex} {v : Int32} (h : Sim P s) (hI : Inv s mm) (hx : x.1 = -1) : (cWd P v).1 = (mWd s x v).1 ∧ Sim (cWd P v).2 (mWd s x v).2 ∧ Inv (mWd s x v).2 mm := by
  have hI0 := hI
  have h0 := h
  unfold cWd mWd
  rw [hpl_sm h]
  by_cases hp : isPl s v = true
  · rw [if_pos hp, if_pos hp]
    obtain ⟨k, hk, rfl, htk⟩ := isPl_k hp
    rw [nI_tn (by omega)]
    have e7 : Bt (P 7 0) k = sCalled s k := by rw [h.1.2.2.2.2.1, called_bt s hk, htk, Bool.true_and]
    rw [e7]
    by_cases hc : sCalled s k = true
    · rw [if_pos hc, if_pos hc]; exact ⟨rfl, h, hI⟩
    · rw [if_neg hc, if_neg hc]
      have hc : sCalled s k = false := by simpa using hc
      obtain ⟨np, nq, τ, h4, h8, e0, e1, e2, hG, hz, hp, hj⟩ := hI
      have hF := fun (k' f : Nat) (hf : f < 8) => sWdr_slot (s := s) (k := k) k' f hf
      have hlo := fun (q : Nat) (h1 : q < 29) (h3 : q ≠ 3) => sWdr_lo (s := s) (k := k) h1 h3
      have h3' : sWdr s k 3 = s 3 + 1 := upd_eq
      have hth : ∀ k', sThere (sWdr s k) k' = (!decide (k' = k) && sThere s k') := fun k' => by
        unfold sThere
        rw [hF k' 0 (by decide)]
        by_cases hkk : k' = k
        · rw [if_pos hkk, decide_eq_true hkk]; rfl
        · rw [if_neg hkk, decide_eq_false hkk, Bool.not_false, Bool.true_and]
      have hthk : ∀ k', sThere (sWdr s k) k' = true → k' ≠ k ∧ sThere s k' = true := fun k' q => by
        rw [hth, Bool.and_eq_true] at q
        exact ⟨fun e => by rw [decide_eq_true e] at q; exact absurd q.1 (by decide), q.2⟩
      have hca : ∀ k', k' ≠ k → sCalled (sWdr s k) k' = sCalled s k' := fun k' hne => by
        unfold sCalled; rw [hF k' 6 (by decide), if_neg hne]
      obtain ⟨⟨s0, s2, s3, s6, s7, s14, s15, s16⟩, q1, q4, q8⟩ := h
      have hS' : Sim (cWdP P k) (sWdr s k) := by
        refine ⟨⟨?_, ?_, ?_, ?_, ?_, ?_, ?_, ?_⟩, fun k' hk' => ?_, fun k' hk' => ⟨?_, ?_⟩, fun k' hk' ht => ?_⟩
        · exact s0.trans (hlo 0 (by decide) (by decide)).symm
        · exact s2.trans (vP2_cg fun j hj => hlo _ (by omega) (by omega)).symm
        · exact s3.trans (hlo 1 (by decide) (by decide)).symm
        · show P 6 0 &&& (pw (nI k) ^^^ (-1)) = _
          rw [s6]
          refine lo12_ext (lo12_and _ (open_lo s)) (open_lo _) fun k' hk' => ?_
          rw [bt_and, bt_not _ (by omega), bt_pw (by omega), open_bt s hk', open_bt _ hk', hth]
          by_cases hkk : k' = k
          · rw [hkk, decide_eq_true rfl]; simp
          · rw [decide_eq_false hkk, hca k' hkk]; simp
        · show P 7 0 = _
          rw [s7]
          refine lo12_ext (called_lo s) (called_lo _) fun k' hk' => ?_
          rw [called_bt s hk', called_bt _ hk', hth]
          by_cases hkk : k' = k
          · rw [hkk, decide_eq_true rfl, hc]; simp
          · rw [decide_eq_false hkk, hca k' hkk]; simp
        · exact s14.trans (hlo 2 (by decide) (by decide)).symm
        · show P 15 0 + 1 = _
          rw [h3', s15]
        · exact s16.trans (hlo 4 (by decide) (by decide)).symm
        · exact (q1 k' hk').trans (hlo _ (by omega) (by omega)).symm
        · exact (q4 k' hk').1.trans (hlo _ (by omega) (by omega)).symm
        · exact (q4 k' hk').2.trans (hlo _ (by omega) (by omega)).symm
        · obtain ⟨hkk, ht'⟩ := hthk k' ht
          unfold SL
          rw [hF k' 1 (by decide), hF k' 2 (by decide), hF k' 3 (by decide), hF k' 4 (by decide), hF k' 5 (by decide), hF k' 7 (by decide), if_neg hkk, if_neg hkk, if_neg hkk, if_neg hkk, if_neg hkk, if_neg hkk]
          exact q8 k' hk' ht'
      have hI' : Inv (sWdr s k) mm := by
        refine ⟨np, nq, τ, h4, h8, ?_, ?_, ?_, fun j hjn => ?_, fun k' hk' ht => ?_, fun k' hk' ht => ?_, fun k' j' hk' hj' ht ht' => ?_⟩
        · exact (hlo 0 (by decide) (by decide)).trans e0
        · exact (hlo 1 (by decide) (by decide)).trans e1
        · exact (hlo 2 (by decide) (by decide)).trans e2
        · rw [hlo _ (by omega) (by omega)]; exact hG j hjn
        · rw [hF k' 0 (by decide)]
          by_cases hkk : k' = k
          · rw [if_pos hkk]
          · rw [if_neg hkk]
            refine hz k' hk' ?_
            rw [hth, decide_eq_false hkk, Bool.not_false, Bool.true_and] at ht
            exact ht
        · obtain ⟨hkk, ht'⟩ := hthk k' ht
          exact PKt.cg (fun f hf => by rw [hF k' f hf, if_neg hkk]) (fun j hjn => hlo _ (by omega) (by omega)) (Nat.le_refl _) (Nat.le_refl _) (hp k' hk' ht')
        · exact hj k' j' hk' hj' (hthk k' ht).2 (hthk j' ht').2
      refine ⟨?_, hS', hI'⟩
      show grt P noX (P 6 0) (P 7 0) &&& (grt (cWdP P k) noX (cWdP P k 6 0) (cWdP P k 7 0) ^^^ (-1)) = std (vP s) x 0 &&& (std (vP (sWdr s k)) x 0 ^^^ (-1))
      rw [std_sm h0 hI0 hx, std_sm hS' hI' hx, std_0, std_0]
      exact cut_same fun i hi hb => oc_dis h0 (gs_sub 12 hb)
  · rw [if_neg hp, if_neg hp]; exact ⟨rfl, h, hI⟩
/-- the row behind n steps of a calling in -/
theorem mCl_all {s : Nat → Int32} {A S : Int32} (hg : ∀ k, k < 12 → Bt (A &&& S) k = true → ∃ i, i < 8 ∧ sF s k 1 = nI i) : ∀ n, n ≤ 12 →
    (∀ q, q < 13 → mCl s A S n q = s q) ∧
    (∀ i, i < 8 → mCl s A S n (13 + 2 * i) = s (13 + 2 * i) - sm (fun k => if (Bt (A &&& S) k && decide (sF s k 1 = nI i)) = true then sF s k 3 else 0) n ∧ mCl s A S n (13 + 2 * i + 1) = s (13 + 2 * i + 1) + sm (fun k => if (Bt (A &&& S) k && decide (sF s k 1 = nI i)) = true then sF s k 3 else 0) n) ∧
    (∀ k f, f < 8 → sF (mCl s A S n) k f = if k < n then (if Bt (A &&& S) k = true then (if f = 6 then 1 else sF s k f) else if Bt A k = true then 0 else sF s k f) else sF s k f)
  | 0, _ => ⟨fun q _ => rfl, fun i _ => ⟨by rw [sm_0, Int32.sub_zero]; rfl, by rw [sm_0, Int32.add_zero]; rfl⟩, fun k f _ => by rw [if_neg (by omega)]; rfl⟩
  | n + 1, hn => by
    obtain ⟨i1, i2, i3⟩ := mCl_all hg n (by omega)
    have hst : mCl s A S (n + 1) = mStep (mCl s A S n) A S n := rfl
    rw [hst]
    unfold mStep
    by_cases hT : Bt (A &&& S) n = true
    · rw [if_pos hT]
      obtain ⟨i, hi, ei⟩ := hg n (by omega) hT
      have e1 : sF (mCl s A S n) n 1 = nI i := by rw [i3 n 1 (by decide), if_neg (by omega)]; exact ei
      have e3 : sF (mCl s A S n) n 3 = sF s n 3 := by rw [i3 n 3 (by decide), if_neg (by omega)]
      rw [e1, nI_tn (by omega)]
      unfold mPay
      rw [e3]
      refine ⟨fun q hq => ?_, fun j hj => ⟨?_, ?_⟩, fun k f hf => ?_⟩
      · rw [upd_ne (by omega), upd_ne (by omega), upd_ne (by omega)]; exact i1 q hq
      · rw [sm_s, hT, ei, Bool.true_and]
        by_cases hij : j = i
        · rw [hij, upd_ne (by omega), upd_eq, (i2 i hi).1, decide_eq_true rfl, if_pos rfl, Int32.sub_sub]
        · rw [upd_ne (by omega), upd_ne (by omega), upd_ne (by omega), (i2 j hj).1, decide_eq_false (fun q => hij (nI_inj (by omega) (by omega) q).symm), if_neg Bool.false_ne_true, Int32.add_zero]
      · rw [sm_s, hT, ei, Bool.true_and]
        by_cases hij : j = i
        · rw [hij, upd_eq, (i2 i hi).2, decide_eq_true rfl, if_pos rfl, Int32.add_assoc]
        · rw [upd_ne (by omega), upd_ne (by omega), upd_ne (by omega), (i2 j hj).2, decide_eq_false (fun q => hij (nI_inj (by omega) (by omega) q).symm), if_neg Bool.false_ne_true, Int32.add_zero]
      · have i3' := i3 k f hf
        unfold sF at i3' ⊢
        rw [upd_ne (by omega), upd_ne (by omega)]
        by_cases hkn : k = n
        · subst hkn
          rw [if_pos (by omega), if_pos hT]
          by_cases h6 : f = 6
          · rw [if_pos h6, h6, upd_eq]
          · rw [if_neg h6, upd_ne (by omega), i3', if_neg (by omega)]
        · rw [upd_ne (by omega), i3']
          by_cases hlt : k < n
          · rw [if_pos hlt, if_pos (show k < n + 1 by omega)]
          · rw [if_neg hlt, if_neg (show ¬ k < n + 1 by omega)]
    · rw [if_neg hT]
      have hTf : Bt (A &&& S) n = false := by simpa using hT
      by_cases hA : Bt A n = true
      · rw [if_pos hA]
        refine ⟨fun q hq => ?_, fun j hj => ⟨?_, ?_⟩, fun k f hf => ?_⟩
        · unfold fgt; rw [if_neg (by omega)]; exact i1 q hq
        · rw [sm_s, hTf, Bool.false_and, if_neg Bool.false_ne_true, Int32.add_zero]
          unfold fgt; rw [if_neg (by omega)]; exact (i2 j hj).1
        · rw [sm_s, hTf, Bool.false_and, if_neg Bool.false_ne_true, Int32.add_zero]
          unfold fgt; rw [if_neg (by omega)]; exact (i2 j hj).2
        · have i3' := i3 k f hf
          unfold sF at i3' ⊢
          unfold fgt
          by_cases hkn : k = n
          · subst hkn
            rw [if_pos (by omega), if_pos (by omega), if_neg hT, if_pos hA]
          · rw [if_neg (by omega), i3']
            by_cases hlt : k < n
            · rw [if_pos hlt, if_pos (show k < n + 1 by omega)]
            · rw [if_neg hlt, if_neg (show ¬ k < n + 1 by omega)]
      · rw [if_neg hA]
        refine ⟨i1, fun j hj => ⟨?_, ?_⟩, fun k f hf => ?_⟩
        · rw [sm_s, hTf, Bool.false_and, if_neg Bool.false_ne_true, Int32.add_zero]; exact (i2 j hj).1
        · rw [sm_s, hTf, Bool.false_and, if_neg Bool.false_ne_true, Int32.add_zero]; exact (i2 j hj).2
        · rw [i3 k f hf]
          by_cases hkn : k = n
          · subst hkn
            rw [if_neg (by omega), if_pos (by omega), if_neg hT, if_neg hA]
          · by_cases hlt : k < n
            · rw [if_pos hlt, if_pos (show k < n + 1 by omega)]
            · rw [if_neg hlt, if_neg (show ¬ k < n + 1 by omega)]
