/-! changes: a project called in, and all changes together -/
theorem co_sm {P : Pl} {s : Nat → Int32} {mm : Nat} {x : Ex} {v : Int32} (h : Sim P s) (hI : Inv s mm) (hx : x.1 = -1) : (cCo P v).1 = (mCa s x v).1 ∧ Sim (cCo P v).2 (mCa s x v).2 ∧ Inv (mCa s x v).2 mm := by
  have hI0 := hI
  have h0 := h
  have hO := h.pok hI
  obtain ⟨np, nq, τ, h4, h8, e0, e1, e2, hG, hz, hp, hj⟩ := hI
  unfold cCo mCa
  rw [hpj_rng (h.1.1.trans e0) (by omega), h.1.1]
  by_cases hc : rng 0 v (s 0 - 1) = true
  · rw [if_pos hc, if_pos hc]
    rw [e0] at hc
    obtain ⟨t, ht, rfl⟩ := rng_pred (by omega) hc
    have ht4 : t < 4 := by omega
    rw [nI_tn (by omega)]
    have eb : Bt (P 2 0) t = decide (s (5 + 2 * t + 1) = 1) := by rw [h.1.2.1, closed_bt s ht4]
    rw [eb, forP_sm h, std_sm h hI0 hx, hasG_sm h hx std_sb ht4]
    cases hcl : decide (s (5 + 2 * t + 1) = 1)
    · -- not closed: all its pledges are free
      have hA : ∀ k, k < 12 → Bt (forP P (nI t)) k = (sThere s k && decide (sF s k 2 = nI t)) := fun k hk => by
        unfold forP
        rw [bt_mk _ _ _ (by decide), decide_eq_true hk, Bool.true_and, h.lb hk]
        cases hth : sThere s k
        · rfl
        · rw [(h.2.2.2 k hk hth).2.1]
      have hAc : ∀ k, k < 12 → Bt (forP P (nI t)) k = true → sCalled s k = false := fun k hk hb => by
        rw [hA k hk, Bool.and_eq_true] at hb
        obtain ⟨-, ⟨j, hjn, ej, ec⟩, -⟩ := hp k hk hb.1
        have hjt : j = t := nI_inj (by omega) (by omega) (ej.symm.trans (of_decide_eq_true hb.2))
        rw [ec, hjt, hcl]
      have hAlo : lo12 (forP P (nI t)) := lo12_mk _
      have eT : forP P (nI t) &&& std P noX 0 = cCoT P (nI t) := by
        unfold cCoT
        refine lo12_ext (lo12_and _ hAlo) (lo12_and _ hAlo) fun k hk => ?_
        rw [bt_and, bt_and, std_0, bt_or]
        cases hb : Bt (forP P (nI t)) k
        · rfl
        · have h7 : Bt (P 7 0) k = false := by
            rw [h.1.2.2.2.2.1, called_bt s hk, hAc k hk hb, Bool.and_false]
          rw [h7, Bool.or_false]
      have hTsb : sb (cCoT P (nI t)) (live P) := sb_and _ sb_for
      have eH : hasG P noX (std P noX 0) (nI t) = decide (P 1 t ≤ amt P (cCoT P (nI t))) := by
        unfold hasG
        rw [nI_tn (by omega), ← amt_for std_sb (by omega), eT]
      rw [eH, eT, Bool.false_or, Bool.false_or]
      by_cases hlt : amt P (cCoT P (nI t)) < P 1 t
      · rw [if_pos (decide_eq_true hlt), if_pos (by rw [decide_eq_false (lt_n hlt)]; rfl)]
        exact ⟨rfl, h, hI0⟩
      · rw [if_neg (by rw [decide_eq_false hlt]; decide), if_neg (by rw [decide_eq_true (nlt hlt)]; decide)]
        have eS : sm (fun k => if Bt (cCoT P (nI t)) k = true then sF s k 3 else 0) 12 = amt P (cCoT P (nI t)) := amt_sm h hTsb
        rw [eS]
        obtain ⟨A, eA⟩ : ∃ A, A = forP P (nI t) := ⟨_, rfl⟩
        obtain ⟨T, eTT⟩ : ∃ T, T = cCoT P (nI t) := ⟨_, rfl⟩
        obtain ⟨S, eSS⟩ : ∃ S, S = std P noX 0 := ⟨_, rfl⟩
        have eAS : A &&& S = T := by rw [eA, eSS, eTT]; exact eT
        have hT12 : ∀ k, k < 12 → Bt T k = true → Bt A k = true := fun k _ hb => by
          rw [← eAS, bt_and, Bool.and_eq_true] at hb; exact hb.1
        have hAt : ∀ k, k < 12 → Bt A k = true → sThere s k = true := fun k hk hb => by
          rw [eA, hA k hk, Bool.and_eq_true] at hb; exact hb.1
        have hgv : ∀ k, k < 12 → Bt (A &&& S) k = true → ∃ i, i < 8 ∧ sF s k 1 = nI i := fun k hk hb => by
          rw [eAS] at hb
          obtain ⟨⟨i, hi, ei⟩, -⟩ := hp k hk (hAt k hk (hT12 k hk hb))
          exact ⟨i, by omega, ei⟩
        obtain ⟨m1, m2, m3⟩ := mCl_all hgv 12 (Nat.le_refl _)
        rw [← eTT, ← eA, ← eSS]
        obtain ⟨R, hR⟩ : ∃ R, R = upd (upd (mCl s A S 12) (5 + 2 * t + 1) 1) 4 (mCl s A S 12 4 + amt P T) := ⟨_, rfl⟩
        rw [← hR]
        have rlo : ∀ q, q < 13 → q ≠ 4 → q ≠ 5 + 2 * t + 1 → R q = s q := fun q h1 h2 h3 => by
          rw [hR, upd_ne h2, upd_ne h3]; exact m1 q h1
        have r4 : R 4 = s 4 + amt P T := by rw [hR, upd_eq, m1 4 (by decide)]
        have rcl : R (5 + 2 * t + 1) = 1 := by rw [hR, upd_ne (by omega), upd_eq]
        have rpu : ∀ i, i < 8 → R (13 + 2 * i) = s (13 + 2 * i) - sm (fun k => if (Bt T k && decide (sF s k 1 = nI i)) = true then sF s k 3 else 0) 12 ∧ R (13 + 2 * i + 1) = s (13 + 2 * i + 1) + sm (fun k => if (Bt T k && decide (sF s k 1 = nI i)) = true then sF s k 3 else 0) 12 := fun i hi => by
          rw [hR, upd_ne (by omega), upd_ne (by omega), upd_ne (by omega), upd_ne (by omega), ← eAS]
          exact m2 i hi
        have rsl : ∀ k f, k < 12 → f < 8 → sF R k f = if Bt T k = true then (if f = 6 then 1 else sF s k f) else if Bt A k = true then 0 else sF s k f := fun k f hk hf => by
          have h1 := m3 k f hf
          rw [if_pos hk, eAS] at h1
          rw [← h1, hR]
          unfold sF
          rw [upd_ne (by omega), upd_ne (by omega)]
        have rth : ∀ k, k < 12 → sThere R k = (sThere s k && (Bt T k || !Bt A k)) := fun k hk => by
          unfold sThere
          rw [rsl k 0 hk (by decide)]
          cases hb : Bt T k
          · cases ha : Bt A k
            · rw [if_neg Bool.false_ne_true, if_neg Bool.false_ne_true]; simp
            · rw [if_neg Bool.false_ne_true, if_pos rfl]; simp
          · rw [if_pos rfl, if_neg (by decide)]; simp
        have rca : ∀ k, k < 12 → sThere R k = true → sCalled R k = (Bt T k || sCalled s k) := fun k hk hth => by
          rw [rth k hk, Bool.and_eq_true] at hth
          unfold sCalled
          rw [rsl k 6 hk (by decide)]
          cases hb : Bt T k
          · rw [hb] at hth
            have ha : Bt A k = false := by simpa using hth.2
            rw [ha, if_neg Bool.false_ne_true, if_neg Bool.false_ne_true, Bool.false_or]
          · rw [if_pos rfl, if_pos rfl]; rfl
        have rkeep : ∀ k f, k < 12 → f < 8 → f ≠ 6 → sThere R k = true → sF R k f = sF s k f ∧ sThere s k = true := fun k f hk hf h6 hth => by
          rw [rth k hk, Bool.and_eq_true] at hth
          refine ⟨?_, hth.1⟩
          rw [rsl k f hk hf]
          cases hb : Bt T k
          · rw [hb] at hth
            have ha : Bt A k = false := by simpa using hth.2
            rw [ha, if_neg Bool.false_ne_true, if_neg Bool.false_ne_true]
          · rw [if_pos rfl, if_neg h6]
        have hAs : ∀ k, k < 12 → Bt A k = (sThere s k && decide (sF s k 2 = nI t)) := fun k hk => by rw [eA]; exact hA k hk
        have hAcs : ∀ k, k < 12 → Bt A k = true → sCalled s k = false := fun k hk hb => hAc k hk (by rw [← eA]; exact hb)
        have hAl : lo12 A := by rw [eA]; exact hAlo
        have hTl : lo12 T := by rw [← eAS]; exact lo12_and _ hAl
        have esum : ∀ i, i < 8 → sm (fun k => if (Bt T k && decide (sF s k 1 = nI i)) = true then sF s k 3 else 0) 12 = amt P (T &&& ofP P (nI i)) := fun i hi => by
          unfold amt
          refine sm_congr fun k hk => ?_
          rw [bt_and]
          cases hb : Bt T k
          · rfl
          · have hth := hAt k hk (hT12 k hk hb)
            obtain ⟨s8, -, s10, -⟩ := h0.2.2.2 k hk hth
            unfold ofP
            rw [bt_mk _ _ _ (by decide), decide_eq_true hk, h0.lb hk, hth, s8, s10]; rfl
        obtain ⟨⟨s0, s2, s3, s6, s7, s14, s15, s16⟩, q1, q4, q8⟩ := h
        have hFin : cFin P (nI t) = us (us (us (us (cPay P T 8) 6 (P 6 0 &&& (A ^^^ (-1)))) 7 (P 7 0 ||| T)) 2 (P 2 0 ||| pw (nI t))) 16 (P 16 0 + amt P T) := by
          unfold cFin; rw [← eA, ← eTT]
        rw [hFin]
        have hth2 : ∀ k, k < 12 → sThere R k = true → sThere s k = true := fun k hk q => (rkeep k 1 hk (by decide) (by decide) q).2
        refine ⟨rfl, show Sim (us (us (us (us (cPay P T 8) 6 (P 6 0 &&& (A ^^^ (-1)))) 7 (P 7 0 ||| T)) 2 (P 2 0 ||| pw (nI t))) 16 (P 16 0 + amt P T)) R from ⟨⟨?_, ?_, ?_, ?_, ?_, ?_, ?_, ?_⟩, fun k hk => ?_, fun k hk => ⟨?_, ?_⟩, fun k hk hth => ?_⟩, show Inv R mm from ⟨np, nq, τ, h4, h8, ?_, ?_, ?_, fun j hjn => ?_, fun k hk hth => ?_, fun k hk hth => ?_, fun k j hk hj' hth hth' => ?_⟩⟩
        · exact s0.trans (rlo 0 (by decide) (by decide) (by omega)).symm
        · show P 2 0 ||| pw (nI t) = mk (fun j => decide (R (5 + 2 * j + 1) = 1)) 4
          rw [s2]
          show mk (fun j => decide (s (5 + 2 * j + 1) = 1)) 4 ||| pw (nI t) = _
          apply bt_ext; intro k hk
          rw [bt_or, bt_mk _ _ _ (by decide), bt_mk _ _ _ (by decide), bt_pw (by omega)]
          by_cases hkt : k = t
          · subst hkt
            rw [decide_eq_true rfl, Bool.or_true, decide_eq_true ht4, rcl]; rfl
          · rw [decide_eq_false hkt, Bool.or_false]
            by_cases hk4 : k < 4
            · rw [rlo _ (by omega) (by omega) (by omega)]
            · rw [decide_eq_false hk4, Bool.false_and, Bool.false_and]
        · exact s3.trans (rlo 1 (by decide) (by decide) (by omega)).symm
        · show P 6 0 &&& (A ^^^ (-1)) = _
          rw [s6]
          refine lo12_ext (lo12_and _ (open_lo s)) (open_lo _) fun k hk => ?_
          rw [bt_and, bt_not _ (by omega), open_bt s hk, open_bt _ hk]
          cases hR' : sThere R k
          · rw [Bool.false_and]
            rw [rth k hk] at hR'
            cases hs : sThere s k
            · rfl
            · rw [hs, Bool.true_and, Bool.or_eq_false_iff] at hR'
              have : Bt A k = true := by simpa using hR'.2
              rw [this]; simp
          · rw [rca k hk hR', Bool.true_and]
            rw [rth k hk, Bool.and_eq_true] at hR'
            rw [hR'.1, Bool.true_and]
            cases hb : Bt T k
            · rw [hb] at hR'
              have ha : Bt A k = false := by simpa using hR'.2
              rw [ha]; simp
            · rw [hT12 k hk hb]; simp
        · show P 7 0 ||| T = _
          rw [s7]
          refine lo12_ext (lo12_or (called_lo s) hTl) (called_lo _) fun k hk => ?_
          rw [bt_or, called_bt s hk, called_bt _ hk]
          cases hR' : sThere R k
          · rw [Bool.false_and]
            rw [rth k hk] at hR'
            cases hs : sThere s k
            · rw [Bool.false_and, Bool.false_or]
              cases hb : Bt T k
              · rfl
              · rw [hAt k hk (hT12 k hk hb)] at hs; cases hs
            · rw [hs, Bool.true_and, Bool.or_eq_false_iff] at hR'
              have : Bt A k = true := by simpa using hR'.2
              rw [hAcs k hk this, hR'.1]; rfl
          · rw [rca k hk hR', Bool.true_and]
            rw [rth k hk, Bool.and_eq_true] at hR'
            rw [hR'.1, Bool.true_and, Bool.or_comm]
        · exact s14.trans (rlo 2 (by decide) (by decide) (by omega)).symm
        · exact s15.trans (rlo 3 (by decide) (by decide) (by omega)).symm
        · show P 16 0 + amt P T = _
          rw [r4, s16]
        · exact (q1 k hk).trans (rlo _ (by omega) (by omega) (by omega)).symm
        · show (if k < 8 then P 4 k - amt P (T &&& ofP P (nI k)) else P 4 k) = _
          rw [if_pos hk, (rpu k hk).1, esum k hk, (q4 k hk).1]
        · show (if k < 8 then P 5 k + amt P (T &&& ofP P (nI k)) else P 5 k) = _
          rw [if_pos hk, (rpu k hk).2, esum k hk, (q4 k hk).2]
        · unfold SL
          rw [(rkeep k 1 hk (by decide) (by decide) hth).1, (rkeep k 2 hk (by decide) (by decide) hth).1, (rkeep k 3 hk (by decide) (by decide) hth).1, (rkeep k 4 hk (by decide) (by decide) hth).1, (rkeep k 5 hk (by decide) (by decide) hth).1, (rkeep k 7 hk (by decide) (by decide) hth).1]
          exact q8 k hk (hth2 k hk hth)
        · exact (rlo 0 (by decide) (by decide) (by omega)).trans e0
        · exact (rlo 1 (by decide) (by decide) (by omega)).trans e1
        · exact (rlo 2 (by decide) (by decide) (by omega)).trans e2
        · rw [rlo _ (by omega) (by omega) (by omega)]; exact hG j hjn
        · rw [rsl k 0 hk (by decide)]
          rw [rth k hk] at hth
          cases hb : Bt T k
          · rw [if_neg Bool.false_ne_true]
            cases ha : Bt A k
            · rw [if_neg Bool.false_ne_true]
              refine hz k hk ?_
              rw [hb, ha] at hth; simpa using hth
            · rw [if_pos rfl]
          · rw [hb, Bool.true_or, Bool.and_true, hAt k hk (hT12 k hk hb)] at hth; cases hth
        · obtain ⟨⟨i, hi, ei⟩, ⟨j, hjn, ej, ec⟩, ⟨a, a1, a2, ea⟩, hk', htt, hl⟩ := hp k hk (hth2 k hk hth)
          refine ⟨⟨i, hi, (rkeep k 1 hk (by decide) (by decide) hth).1.trans ei⟩, ⟨j, hjn, (rkeep k 2 hk (by decide) (by decide) hth).1.trans ej, ?_⟩, ⟨a, a1, a2, (rkeep k 3 hk (by decide) (by decide) hth).1.trans ea⟩, ?_, (rkeep k 7 hk (by decide) (by decide) hth).1.trans htt, hl⟩
          · rw [rca k hk hth]
            cases hb : Bt T k
            · rw [Bool.false_or, ec]
              have hjt : j ≠ t := by
                intro q
                rw [rth k hk, hb, Bool.false_or, Bool.and_eq_true, hAs k hk, ej, q, decide_eq_true rfl, Bool.and_true] at hth
                rw [hth.1] at hth; exact absurd hth.2 (by decide)
              rw [rlo _ (by omega) (by omega) (by omega)]
            · have hjt : j = t := by
                have := hT12 k hk hb
                rw [hAs k hk, Bool.and_eq_true, ej] at this
                exact nI_inj (by omega) (by omega) (of_decide_eq_true this.2)
              rw [hjt, rcl]; rfl
          · unfold KC
            rw [(rkeep k 4 hk (by decide) (by decide) hth).1, (rkeep k 5 hk (by decide) (by decide) hth).1]
            exact hk'
        · exact hj k j hk hj' (hth2 k hk hth) (hth2 j hj' hth')
    · rw [Bool.true_or, Bool.true_or, if_pos rfl, if_pos rfl]
      exact ⟨rfl, h, hI0⟩
  · rw [if_neg hc, if_neg hc]; exact ⟨rfl, h, hI0⟩
theorem gOK_inv {s : Nat → Int32} {mm : Nat} (hI : Inv s mm) (T : Int32) (hT : ∀ k, k < 12 → Bt T k = true → sThere s k = true) : gOK s T := by
  obtain ⟨np, nq, τ, h4, h8, -, -, -, -, -, hp, -⟩ := hI
  intro k hk hb
  obtain ⟨⟨i, hi, ei⟩, -⟩ := hp k hk (hT k hk hb)
  exact ⟨i, by omega, ei⟩
theorem gOK_for {s : Nat → Int32} {mm : Nat} (hI : Inv s mm) (j S : Int32) : gOK s (forP (vP s) j &&& S) := gOK_inv hI _ fun k hk hb => by
  rw [bt_and, Bool.and_eq_true] at hb
  have := sb_for k hb.1
  rw [live_bt s hk] at this
  exact this
theorem Inv.pre {s : Nat → Int32} {mm : Nat} (hI : Inv s mm) (x : Ex) : sPre s x := by
  have h0 := hI
  obtain ⟨np, nq, τ, h4, h8, e0, e1, -⟩ := hI
  exact ⟨⟨np, h4, e0⟩, ⟨nq, h8, e1⟩, h0.ok, fun j => gOK_for h0 _ _⟩
theorem Sim.pre {P : Pl} {s : Nat → Int32} {mm : Nat} (h : Sim P s) (hI : Inv s mm) : cPre P := by
  obtain ⟨np, nq, h4, h8, e0, e3, -, -⟩ := h.np hI
  exact ⟨⟨np, h4, e0⟩, ⟨nq, h8, e3⟩, h.pok hI⟩
theorem Inv.le {s : Nat → Int32} {mm : Nat} (hI : Inv s mm) : ∃ m', m' ≤ mm + 1 ∧ Inv s m' := ⟨mm, by omega, hI⟩
theorem do_sm {P : Pl} {s : Nat → Int32} {mm : Nat} {x : Ex} {c : Int32} {N N' : Nat → Int32} (h : Sim P s) (hI : Inv s mm) (hx : x.1 = -1) (hc : c = 103 ∨ c = 104 ∨ c = 112 ∨ c = 119 ∨ c = 99) (hN : ∀ k, k < cMany c → N k = N' k) :
    (cDo P c N).1 = (mDo s x c N').1 ∧ Sim (cDo P c N).2 (mDo s x c N').2 ∧ ∃ m', m' ≤ mm + 1 ∧ Inv (mDo s x c N').2 m' := by
  unfold cDo mDo
  rcases hc with rfl | rfl | rfl | rfl | rfl
  · rw [if_pos rfl, if_pos rfl, hN 0 (by decide)]
    obtain ⟨a, b, d⟩ := add_sm (g := N' 0) h hI
    exact ⟨a, b, d.le⟩
  · rw [if_neg (by decide), if_pos rfl, if_neg (by decide), if_pos rfl, hN 0 (by decide)]
    obtain ⟨a, b, d⟩ := come_sm (g := N' 0) h hI
    exact ⟨a, b, d.le⟩
  · rw [if_neg (by decide), if_neg (by decide), if_pos rfl, if_neg (by decide), if_neg (by decide), if_pos rfl, hN 0 (by decide), hN 1 (by decide), hN 2 (by decide), hN 3 (by decide), hN 4 (by decide)]
    exact mk_sm h hI
  · rw [if_neg (by decide), if_neg (by decide), if_neg (by decide), if_pos rfl, if_neg (by decide), if_neg (by decide), if_neg (by decide), if_pos rfl, hN 0 (by decide)]
    obtain ⟨a, b, d⟩ := wd_sm (v := N' 0) h hI hx
    exact ⟨a, b, d.le⟩
  · rw [if_neg (by decide), if_neg (by decide), if_neg (by decide), if_neg (by decide), if_pos rfl, if_neg (by decide), if_neg (by decide), if_neg (by decide), if_neg (by decide), hN 0 (by decide)]
    obtain ⟨a, b, d⟩ := co_sm (v := N' 0) h hI hx
    exact ⟨a, b, d.le⟩
