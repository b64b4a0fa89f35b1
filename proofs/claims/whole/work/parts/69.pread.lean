/-! what is told: the class's and the reference's -/
section PR
variable {P : Pl} {s : Nat → Int32} {x : Ex} {mm : Nat}
theorem pl_sm (h : Sim P s) (hI : Inv s mm) (hF : Fl s) (hx : x.1 = -1) (v what : Int32) : cPl P v what = qPl s x v what := by
  unfold cPl qPl
  rw [hpl_sm h]
  by_cases hc : (isPl s v && rng 0 what 9) = true
  · rw [if_pos hc, if_pos hc]
    rw [Bool.and_eq_true] at hc
    obtain ⟨k, hk, rfl, htk⟩ := isPl_k hc.1
    obtain ⟨w, hw, rfl⟩ := rng_nat (n := 9) (by decide) hc.2
    rw [nI_tn (show k < 2 ^ 31 by omega), nI_tn (show w < 2 ^ 31 by omega), std_sm h hI hx, std_sm h hI hx]
    obtain ⟨s8, s9, s10, s11, s12, s13⟩ := h.2.2.2 k hk htk
    match w, hw with
    | 0, _ => exact s8
    | 1, _ => exact s9
    | 2, _ => exact s10
    | 3, _ => exact s11
    | 4, _ => exact s12
    | 5, _ =>
      show bI (Bt (P 7 0) k) = sF s k 6
      rw [h.1.2.2.2.2.1, called_bt s hk, htk, Bool.true_and]
      unfold sCalled
      rcases hF k hk with e | e
      · rw [e]; rfl
      · rw [e]; rfl
    | 6, _ => rfl
    | 7, _ =>
      show cFall P k = (if Bt (std P noX 0) k = true then -4 else wav (vP s) x k)
      rw [wav_sm h hI hx]
      unfold cFall
      obtain ⟨m, hm, em, im⟩ := wv_std h hk htk
      rw [em]
      by_cases h0 : m = 0
      · rw [if_pos (im.mp h0), h0]; exact if_pos rfl
      · rw [if_neg (fun q => h0 (im.mpr q)), if_neg (nI_ne0 (by omega) (by omega))]
    | 8, _ => exact s13
    | 9, _ =>
      show cTop P k = (if sCalled s k = true then -2 else _)
      unfold cTop
      rw [h.1.2.2.2.2.1, called_bt s hk, htk, Bool.true_and]
    | n + 10, hn => omega
  · rw [if_neg hc, if_neg hc]
theorem ned_sm (h : Sim P s) (hI : Inv s mm) (hx : x.1 = -1) {j : Nat} (hj : j < 4) : ned (vP s) x (nI j) = ned P noX (nI j) := by
  unfold ned
  refine mk_congr fun k hk => ?_
  rw [std_sm h hI hx, hasG_sm h hx std_sb hj, ← h.1.2.2.2.1]
theorem pr_sm (h : Sim P s) (hI : Inv s mm) (hm : mm < 2 ^ 31) (hx : x.1 = -1) (m : Nat) (v what : Int32) : cPr P m v what = qPr s x m v what := by
  obtain ⟨np, nq, h4, h8, e0, e3, f0, f1⟩ := h.np hI
  unfold cPr qPr
  rw [hpj_rng e0 (by omega), h.1.1]
  by_cases hc : (rng 0 v (s 0 - 1) && rng 0 what 9) = true
  · rw [if_pos hc, if_pos hc]
    rw [Bool.and_eq_true, f0] at hc
    obtain ⟨j, hjn, rfl⟩ := rng_pred (by omega) hc.1
    have hj : j < 4 := by omega
    rw [nI_tn (show j < 2 ^ 31 by omega), std_sm h hI hx, hasG_sm h hx std_sb hj, forP_sm h, ned_sm h hI hx hj, tip_sm h hI hm hx hj, amt_sm h sb_for, amt_sm h (sb_and _ sb_for)]
    rw [show vP s 1 j = P 1 j from (h.2.1 j hj).symm]
    rw [h.1.2.1, closed_bt s hj]
    have e : ∀ a b : Int32, (if decide (s (5 + 2 * j + 1) = 1) = true then a else b) = (if s (5 + 2 * j + 1) = 1 then a else b) := fun a b => by
      by_cases hd : s (5 + 2 * j + 1) = 1
      · rw [if_pos (decide_eq_true hd), if_pos hd]
      · rw [if_neg (by rw [decide_eq_false hd]; decide), if_neg hd]
    rw [e]
  · rw [if_neg hc, if_neg hc]
theorem pe_sm (h : Sim P s) (hI : Inv s mm) (hx : x.1 = -1) (v what : Int32) : cPe P v what = qPe s x v what := by
  obtain ⟨np, nq, h4, h8, e0, e3, f0, f1⟩ := h.np hI
  unfold cPe qPe
  rw [hpe_rng e3 (by omega), h.1.2.2.1]
  by_cases hc : (rng 0 v (s 1 - 1) && rng 0 what 5) = true
  · rw [if_pos hc, if_pos hc]
    rw [Bool.and_eq_true, f1] at hc
    obtain ⟨j, hjn, rfl⟩ := rng_pred (by omega) hc.1
    rw [nI_tn (show j < 2 ^ 31 by omega), std_sm h hI hx, std_sm h hI hx, ofP_sm h, ← h.1.2.2.2.1, amt_sm h (sb_and _ sb_of'), amt_sm h (sb_and _ (sb_and _ sb_of')), (h.2.2.1 j (by omega)).1, (h.2.2.1 j (by omega)).2]
  · rw [if_neg hc, if_neg hc]
theorem isS_d (s : Nat → Int32) (S : Int32) (a b : Int32) : (if isS s S = true then a else b) = (if S &&& (live (vP s) ^^^ (-1)) = 0 then a else b) := by
  unfold isS
  by_cases hd : S &&& (live (vP s) ^^^ (-1)) = 0
  · rw [if_pos (decide_eq_true hd), if_pos hd]
  · rw [if_neg (by rw [decide_eq_false hd]; decide), if_neg hd]
theorem st_sm (h : Sim P s) (hI : Inv s mm) (hx : x.1 = -1) (S : Int32) : cSta P S = qSt s x S := by
  unfold cSta qSt
  rw [isS_d, std_sm h hI hx, ← h.live, ← h.1.2.2.2.2.1]
theorem se_sm (h : Sim P s) (hI : Inv s mm) (hx : x.1 = -1) (S what : Int32) : cSet P S what = qSe s x S what := by
  unfold cSet qSe
  cases hr : rng 0 what 2
  · rw [Bool.and_false, if_neg Bool.false_ne_true, if_neg Bool.false_ne_true]
  · rw [Bool.and_true, if_pos rfl, isS_d, ← h.live, ← h.1.2.2.2.2.1]
    by_cases h1 : S &&& (live P ^^^ (-1)) = 0
    · rw [if_pos h1, if_pos h1, fal_sm h hI hx (sb_of h1) (sb_ca P), grt_sm h hI hx (sb_of h1) (sb_ca P)]
    · rw [if_neg h1, if_neg h1]
theorem goals_sm (h : Sim P s) (hI : Inv s mm) (hx : x.1 = -1) {np : Nat} (e0 : s 0 = nI np) (h4 : np ≤ 4) : sm (fun j => if hasG (vP s) x (std (vP s) x 0) (nI j) = true then (1 : Int32) else 0) np = qPwg P := by
  unfold qPwg
  have e : ∀ d, np + d = 4 → sm (fun k => if (hpj P (nI k) && hasG P noX (std P noX 0) (nI k)) = true then (1 : Int32) else 0) (np + d) = sm (fun k => if (hpj P (nI k) && hasG P noX (std P noX 0) (nI k)) = true then (1 : Int32) else 0) np := fun d hd => sm_ext fun k h1 h2 => by
    have : hpj P (nI k) = false := by
      unfold hpj
      rw [h.1.1, e0, decide_eq_false (nI_nlt h1 (by omega)), Bool.and_false]
    rw [this, Bool.false_and, if_neg Bool.false_ne_true]
  have e2 := e (4 - np) (by omega)
  rw [show np + (4 - np) = 4 by omega] at e2
  rw [e2]
  refine sm_congr fun k hk => ?_
  have : hpj P (nI k) = true := by
    unfold hpj
    rw [h.1.1, e0, decide_eq_true (nI_pos' (by omega)), decide_eq_true (nI_lt hk (by omega))]; rfl
  rw [this, Bool.true_and, std_sm h hI hx, hasG_sm h hx std_sb (by omega)]
theorem ct_sm (h : Sim P s) (hI : Inv s mm) (hx : x.1 = -1) {np N : Nat} (e0 : s 0 = nI np) (h4 : np ≤ 4) (st ln what : Int32) : cCt P N st ln what = qCt s x N np st ln what := by
  unfold cCt qCt
  rw [← h.1.1, ← h.1.2.2.1, ← h.live, ← h.1.2.2.2.1, goals_sm h hI hx e0 h4, std_sm h hI hx, ← h.1.2.2.2.2.2.1, ← h.1.2.2.2.2.2.2.1, ← h.1.2.2.2.2.2.2.2]
  have e5 : nwP (vP s) x 0 = nw P noX (P 6 0) (P 7 0) 12 := by
    unfold nwP
    rw [and_not0, ← h.1.2.2.2.1, ← h.1.2.2.2.2.1, nw_sm h hI hx (sb_op P) (sb_ca P)]
  have e6 : sm (fun n => if (decide (nI n &&& (P 6 0 ^^^ (-1)) = 0) && decide (fal (vP s) x (nI n) (vP s 7 0) = 0)) = true then (1 : Int32) else 0) N = sm (qSt1 P (grt P noX (P 6 0) (P 7 0))) N := sm_congr fun n _ => by
    have := sets_sm h hI hx n
    rw [← h.1.2.2.2.1] at this
    exact this
  rw [e5, e6]
end PR
