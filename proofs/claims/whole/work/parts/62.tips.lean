/-! the tip: the class's and the reference's -/
/-- turns of what there is -/
def TT (s : Nat → Int32) (mm : Nat) (τ : Nat → Nat) : Prop := mm < 2 ^ 31 ∧ (∀ k, k < 12 → sThere s k = true → sF s k 7 = nI (τ k) ∧ τ k < mm) ∧ ∀ k j, k < 12 → j < 12 → sThere s k = true → sThere s j = true → τ k = τ j → k = j
theorem Inv.tt {s : Nat → Int32} {mm : Nat} (h : Inv s mm) (hm : mm < 2 ^ 31) : ∃ τ, TT s mm τ := by
  obtain ⟨np, nq, τ, -, -, -, -, -, -, -, h8, h9⟩ := h
  exact ⟨τ, hm, fun k hk ht => ⟨(h8 k hk ht).2.2.2.2.1, (h8 k hk ht).2.2.2.2.2⟩, h9⟩
/-- p comes first of those that do -/
def fstp (s : Nat → Int32) (τ : Nat → Nat) (p : Nat → Bool) (n : Nat) (r : Int32) : Prop :=
  (r = -4 ∧ ∀ k, k < n → sThere s k = true → p k = false) ∨ ∃ m, m < n ∧ sThere s m = true ∧ p m = true ∧ r = nI m ∧ ∀ k, k < n → sThere s k = true → p k = true → τ m ≤ τ k
theorem fstp_eq {s : Nat → Int32} {mm : Nat} {τ : Nat → Nat} {p : Nat → Bool} {r r' : Int32} (hT : TT s mm τ) (h : fstp s τ p 12 r) (h' : fstp s τ p 12 r') : r = r' := by
  rcases h with ⟨e, h⟩ | ⟨m, hm, ht, hp, e, h⟩
  · rcases h' with ⟨e', h'⟩ | ⟨m', hm', ht', hp', e', h'⟩
    · rw [e, e']
    · exact absurd ((h m' hm' ht').symm.trans hp') (by decide)
  · rcases h' with ⟨e', h'⟩ | ⟨m', hm', ht', hp', e', h'⟩
    · exact absurd ((h' m hm ht).symm.trans hp) (by decide)
    · have h1 := h m' hm' ht' hp'
      have h2 := h' m hm ht hp
      rw [e, e', hT.2.2 m m' hm hm' ht ht' (by omega)]
section TP
variable {P : Pl} {s : Nat → Int32} {x : Ex} {mm : Nat} {τ : Nat → Nat}
theorem tpC_fst (h : Sim P s) (hT : TT s mm τ) (h2 : s 2 = nI mm) (j : Int32) : ∀ n, n ≤ 12 → fstp s τ (tpg P j) n (tpC P j n).1 ∧ ((tpC P j n).1 = -4 → (tpC P j n).2 = nI mm) ∧ ∀ m, m < 12 → sThere s m = true → (tpC P j n).1 = nI m → (tpC P j n).2 = nI (τ m)
  | 0, _ => ⟨Or.inl ⟨rfl, fun k hk => absurd hk (by omega)⟩, fun _ => h.1.2.2.2.2.2.1.trans h2, fun m hm _ e => absurd e (fun q => absurd (show nI m < 0 by rw [← show (-4 : Int32) = nI m from q]; decide) (nI_pos (by omega)))⟩
  | n + 1, hn => by
    obtain ⟨h3, h4, h5⟩ := tpC_fst h hT h2 j n (by omega)
    have hmm := hT.1
    by_cases hth : sThere s n = true
    · obtain ⟨e7, hlt⟩ := hT.2.1 n (by omega) hth
      have e13 : P 13 n = nI (τ n) := (h.2.2.2 n (by omega) hth).2.2.2.2.2.trans e7
      have hlv : Bt (live P) n = true := by rw [h.lb (by omega)]; exact hth
      cases hg : tpg P j n
      · have e := tpC_n (P := P) (j := j) (n := n) (by rw [hg, Bool.and_false, Bool.and_false])
        rw [e]
        refine ⟨?_, h4, h5⟩
        rcases h3 with ⟨q1, q2⟩ | ⟨m, q1, q2, q3, q4, q5⟩
        · refine Or.inl ⟨q1, fun k hk ht => ?_⟩
          by_cases hkn : k = n
          · rw [hkn]; exact hg
          · exact q2 k (by omega) ht
        · refine Or.inr ⟨m, by omega, q2, q3, q4, fun k hk ht hp => ?_⟩
          by_cases hkn : k = n
          · rw [hkn, hg] at hp; cases hp
          · exact q5 k (by omega) ht hp
      · rcases h3 with ⟨q1, q2⟩ | ⟨m, q1, q2, q3, q4, q5⟩
        · have e := tpC_y (P := P) (j := j) (n := n) (by rw [hlv, hg, h4 q1, e13, decide_eq_true (nI_lt hlt hmm)]; rfl)
          rw [e]
          refine ⟨Or.inr ⟨n, by omega, hth, hg, rfl, fun k hk ht hp => ?_⟩, fun q => absurd q (fun q => absurd (show nI n < 0 by rw [show nI n = -4 from q]; decide) (nI_pos (by omega))), fun m hm _ e => ?_⟩
          · by_cases hkn : k = n
            · rw [hkn]; exact Nat.le_refl _
            · exact absurd ((q2 k (by omega) ht).symm.trans hp) (by decide)
          · rw [show m = n from (nI_inj (by omega) (by omega) e).symm]; exact e13
        · have e2 := h5 m (by omega) q2 q4
          obtain ⟨-, hlm⟩ := hT.2.1 m (by omega) q2
          by_cases hc : τ n < τ m
          · have e := tpC_y (P := P) (j := j) (n := n) (by rw [hlv, hg, e2, e13, decide_eq_true (nI_lt hc (by omega))]; rfl)
            rw [e]
            refine ⟨Or.inr ⟨n, by omega, hth, hg, rfl, fun k hk ht hp => ?_⟩, fun q => absurd q (fun q => absurd (show nI n < 0 by rw [show nI n = -4 from q]; decide) (nI_pos (by omega))), fun m hm _ e => ?_⟩
            · by_cases hkn : k = n
              · rw [hkn]; exact Nat.le_refl _
              · have := q5 k (by omega) ht hp; omega
            · rw [show m = n from (nI_inj (by omega) (by omega) e).symm]; exact e13
          · have e := tpC_n (P := P) (j := j) (n := n) (by rw [e2, e13, decide_eq_false (nI_nlt (by omega) (by omega)), Bool.false_and, Bool.and_false])
            rw [e]
            refine ⟨Or.inr ⟨m, by omega, q2, q3, q4, fun k hk ht hp => ?_⟩, h4, h5⟩
            by_cases hkn : k = n
            · rw [hkn]; omega
            · exact q5 k (by omega) ht hp
    · have hth : sThere s n = false := by simpa using hth
      have hlv : Bt (live P) n = false := by rw [h.lb (by omega)]; exact hth
      have e := tpC_n (P := P) (j := j) (n := n) (by rw [hlv, Bool.false_and])
      rw [e]
      refine ⟨?_, h4, h5⟩
      rcases h3 with ⟨q1, q2⟩ | ⟨m, q1, q2, q3, q4, q5⟩
      · refine Or.inl ⟨q1, fun k hk ht => ?_⟩
        by_cases hkn : k = n
        · rw [hkn, hth] at ht; cases ht
        · exact q2 k (by omega) ht
      · refine Or.inr ⟨m, by omega, q2, q3, q4, fun k hk ht hp => ?_⟩
        by_cases hkn : k = n
        · rw [hkn, hth] at ht; cases ht
        · exact q5 k (by omega) ht hp
/-- the next one is the one of the least turn -/
theorem nxI_min (hT : TT s mm τ) {R : Int32} (hR : ∀ k, k < 12 → Bt R k = true → sThere s k = true) : ∀ n, n ≤ 12 → (nxI s R n = -1 ∧ ∀ k, k < n → Bt R k = false) ∨ ∃ m, m < n ∧ nxI s R n = nI m ∧ Bt R m = true ∧ ∀ k, k < n → Bt R k = true → τ m ≤ τ k
  | 0, _ => Or.inl ⟨rfl, fun k hk => absurd hk (by omega)⟩
  | n + 1, hn => by
    have hmm := hT.1
    rcases nxI_min hT hR n (by omega) with ⟨q1, q2⟩ | ⟨m, h1, h2, h3, h4⟩
    · cases hb : Bt R n
      · refine Or.inl ⟨by rw [nxI, hb, Bool.false_and, if_neg Bool.false_ne_true, q1], fun k hk => ?_⟩
        by_cases hkn : k = n
        · rw [hkn]; exact hb
        · exact q2 k (by omega)
      · refine Or.inr ⟨n, by omega, by rw [nxI, hb, q1, show decide ((-1 : Int32) < 0) = true by decide]; rfl, hb, fun k hk hbk => ?_⟩
        by_cases hkn : k = n
        · rw [hkn]; exact Nat.le_refl _
        · rw [q2 k (by omega)] at hbk; cases hbk
    · cases hb : Bt R n
      · refine Or.inr ⟨m, by omega, by rw [nxI, hb, Bool.false_and, if_neg Bool.false_ne_true, h2], h3, fun k hk hbk => ?_⟩
        by_cases hkn : k = n
        · rw [hkn, hb] at hbk; cases hbk
        · exact h4 k (by omega) hbk
      · obtain ⟨e1, l1⟩ := hT.2.1 n (by omega) (hR n (by omega) hb)
        obtain ⟨e2, l2⟩ := hT.2.1 m (by omega) (hR m (by omega) h3)
        by_cases hc : τ n < τ m
        · refine Or.inr ⟨n, by omega, by rw [nxI, hb, h2, nI_tn (by omega), e1, e2, decide_eq_true (nI_lt hc (by omega)), Bool.or_true]; rfl, hb, fun k hk hbk => ?_⟩
          by_cases hkn : k = n
          · rw [hkn]; exact Nat.le_refl _
          · have := h4 k (by omega) hbk; omega
        · refine Or.inr ⟨m, by omega, by rw [nxI, hb, h2, nI_tn (by omega), e1, e2, decide_eq_false (nI_nlt (show τ m ≤ τ n by omega) (by omega)), decide_eq_false (nI_pos (show m < 2 ^ 31 by omega)), Bool.or_false, Bool.and_false, if_neg Bool.false_ne_true], h3, fun k hk hbk => ?_⟩
          by_cases hkn : k = n
          · rw [hkn]; omega
          · exact h4 k (by omega) hbk
theorem tipL_fst (h : Sim P s) (hI : Inv s mm) (hT : TT s mm τ) (hx : x.1 = -1) {j : Nat} (hj : j < 4) : ∀ (f : Nat) (D : Int32), lo12 D → (∀ k, k < 12 → Bt D k = true → sThere s k = true) → (∀ k k', k < 12 → k' < 12 → Bt D k = true → sThere s k' = true → Bt D k' = false → τ k < τ k') → (∀ k, k < 12 → Bt D k = true → tpg P (nI j) k = false) → nbc (Bt (live (vP s) &&& (D ^^^ (-1)))) 12 < f → fstp s τ (tpg P (nI j)) 12 (tipL s x (nI j) f D)
  | 0, _, _, _, _, _, hf => absurd hf (by omega)
  | f + 1, D, hlo, hsub, hdc, hno, hf => by
    have hmm := hT.1
    rw [tipL]
    by_cases hD : D = live (vP s)
    · rw [if_pos hD]
      refine Or.inl ⟨rfl, fun k hk ht => hno k hk ?_⟩
      rw [hD, live_bt s hk]; exact ht
    · rw [if_neg hD]
      have hRb : ∀ k, k < 12 → Bt (live (vP s) &&& (D ^^^ (-1))) k = (sThere s k && !Bt D k) := fun k hk => by rw [bt_and, bt_not _ (by omega), live_bt s hk]
      rcases nxI_min hT (R := live (vP s) &&& (D ^^^ (-1))) (fun k hk hb => by rw [hRb k hk, Bool.and_eq_true] at hb; exact hb.1) 12 (Nat.le_refl _) with ⟨q1, q2⟩ | ⟨m, hm, hmx, hmR, hmin⟩
      · exfalso
        apply hD
        refine lo12_ext hlo (live_lo s) fun k hk => ?_
        rw [live_bt s hk]
        have h1 := q2 k hk
        rw [hRb k hk] at h1
        cases hd : Bt D k
        · rw [hd] at h1; simpa using h1.symm
        · exact (hsub k hk hd).symm
      · rw [hmx]
        rw [hRb m hm, Bool.and_eq_true] at hmR
        have hmD : Bt D m = false := by simpa using hmR.2
        have hD'b : ∀ k, k < 12 → Bt (D ||| pw (nI m)) k = (Bt D k || decide (k = m)) := fun k hk => by rw [bt_or, bt_pw (by omega)]
        have hlo' : lo12 (D ||| pw (nI m)) := lo12_or hlo (lo12_pw hm)
        obtain ⟨em, lm⟩ := hT.2.1 m hm hmR.1
        have e13m : P 13 m = nI (τ m) := (h.2.2.2 m hm hmR.1).2.2.2.2.2.trans em
        have hup : uptoP P (P 13 m) = D ||| pw (nI m) := by
          unfold uptoP
          refine lo12_ext (lo12_and _ (lo12_mk _)) hlo' fun k hk => ?_
          rw [bt_and, bt_mk _ _ _ (by decide), decide_eq_true hk, Bool.true_and, h.lb hk, hD'b k hk, e13m]
          cases ht : sThere s k
          · rw [Bool.and_false]
            cases hd : Bt D k
            · rw [Bool.false_or]
              symm; apply decide_eq_false
              intro q; rw [q, hmR.1] at ht; cases ht
            · rw [hsub k hk hd] at ht; cases ht
          · rw [Bool.and_true]
            obtain ⟨ek, lk⟩ := hT.2.1 k hk ht
            rw [show P 13 k = nI (τ k) from (h.2.2.2 k hk ht).2.2.2.2.2.trans ek]
            cases hd : Bt D k
            · rw [Bool.false_or]
              have h1 := hmin k hk (by rw [hRb k hk, ht, hd]; rfl)
              by_cases hkm : k = m
              · rw [hkm, decide_eq_true rfl]; exact decide_eq_true (Int32.le_refl _)
              · rw [decide_eq_false hkm]
                refine decide_eq_false (nI_ge ?_ (by omega))
                have : τ k ≠ τ m := fun q => hkm (hT.2.2 k m hk hm ht hmR.1 q)
                omega
            · rw [Bool.true_or]
              have := hdc k m hk hm hd hmR.1 hmD
              exact decide_eq_true (nI_le (by omega) (by omega))
        have hS1 : sb (P 6 0 &&& (D ||| pw (nI m))) (live P) := sb_and _ (sb_op P)
        have hS2 : sb (P 7 0 &&& (D ||| pw (nI m))) (live P) := sb_and _ (sb_ca P)
        have hgo : hasG (vP s) x (grt (vP s) x (vP s 6 0 &&& (D ||| pw (nI m))) (vP s 7 0 &&& (D ||| pw (nI m))) ||| (vP s 7 0 &&& (D ||| pw (nI m)))) (nI j) = tpg P (nI j) m := by
          unfold tpg
          rw [hup, ← h.1.2.2.2.1, ← h.1.2.2.2.2.1, grt_sm h hI hx hS1 hS2, hasG_sm h hx (sb_or (sb_grt hS1) hS2) hj]
        rw [hgo]
        by_cases hg : tpg P (nI j) m = true
        · rw [if_pos hg]
          refine Or.inr ⟨m, hm, hmR.1, hg, rfl, fun k hk ht hp => ?_⟩
          cases hd : Bt D k
          · exact hmin k hk (by rw [hRb k hk, ht, hd]; rfl)
          · rw [hno k hk hd] at hp; cases hp
        · rw [if_neg hg]
          have hg : tpg P (nI j) m = false := by simpa using hg
          refine tipL_fst h hI hT hx hj f (D ||| pw (nI m)) hlo' (fun k hk hb => ?_) (fun k k' hk hk' hb ht' hb' => ?_) (fun k hk hb => ?_) ?_
          · rw [hD'b k hk, Bool.or_eq_true] at hb
            rcases hb with hb | hb
            · exact hsub k hk hb
            · rw [of_decide_eq_true hb]; exact hmR.1
          · rw [hD'b k' hk', Bool.or_eq_false_iff] at hb'
            rw [hD'b k hk, Bool.or_eq_true] at hb
            have hne : k' ≠ m := of_decide_eq_false hb'.2
            rcases hb with hb | hb
            · exact hdc k k' hk hk' hb ht' hb'.1
            · rw [of_decide_eq_true hb]
              have h1 := hmin k' hk' (by rw [hRb k' hk', ht', hb'.1]; rfl)
              have : τ k' ≠ τ m := fun q => hne (hT.2.2 k' m hk' hm ht' hmR.1 q)
              omega
          · rw [hD'b k hk, Bool.or_eq_true] at hb
            rcases hb with hb | hb
            · exact hno k hk hb
            · rw [of_decide_eq_true hb]; exact hg
          · obtain ⟨N, hN⟩ : ∃ N, N = 12 := ⟨_, rfl⟩
            have h2 : nbc (Bt (live (vP s) &&& ((D ||| pw (nI m)) ^^^ (-1)))) N < nbc (Bt (live (vP s) &&& (D ^^^ (-1)))) N := by
              refine nbc_lt (j := m) (fun k hk hb => ?_) (by omega) ?_ ?_
              · rw [bt_and, bt_not _ (by omega), hD'b k (by omega), Bool.and_eq_true] at hb
                rw [bt_and, bt_not _ (by omega), hb.1]
                have h5 := hb.2
                cases hd : Bt D k
                · rfl
                · rw [hd] at h5; simp at h5
              · rw [bt_and, bt_not _ (by omega), hD'b m hm]; simp
              · rw [hRb m hm, hmR.1, hmD]; rfl
            rw [hN] at h2
            omega
theorem tip_sm (h : Sim P s) (hI : Inv s mm) (hm : mm < 2 ^ 31) (hx : x.1 = -1) {j : Nat} (hj : j < 4) : tipL s x (nI j) 13 0 = (tpC P (nI j) 12).1 := by
  obtain ⟨τ, hT⟩ := hI.tt hm
  have h2 : s 2 = nI mm := by
    obtain ⟨np, nq, τ, -, -, -, -, e, -⟩ := hI
    exact e
  refine fstp_eq hT (tipL_fst h hI hT hx hj 13 0 lo12_0 (fun k _ q => ?_) (fun k k' _ _ q => ?_) (fun k _ q => ?_) ?_) (tpC_fst h hT h2 (nI j) 12 (Nat.le_refl _)).1
  · rw [bt_0] at q; cases q
  · rw [bt_0] at q; cases q
  · rw [bt_0] at q; cases q
  · obtain ⟨N, hN⟩ : ∃ N, N = 12 := ⟨_, rfl⟩
    have := nbc_le (Bt (live (vP s) &&& (0 ^^^ (-1)))) N
    rw [hN] at this
    omega
end TP
