/-! changes: the class's and the reference's, projects, persons, pledges made -/
theorem vP67_cg {s s' : Nat → Int32} (h : ∀ k, k < 12 → sF s' k 0 = sF s k 0 ∧ sF s' k 6 = sF s k 6) : vP s' 6 0 = vP s 6 0 ∧ vP s' 7 0 = vP s 7 0 := by
  have e1 : ∀ k, k < 12 → sThere s' k = sThere s k := fun k hk => by unfold sThere; rw [(h k hk).1]
  have e2 : ∀ k, k < 12 → sCalled s' k = sCalled s k := fun k hk => by unfold sCalled; rw [(h k hk).2]
  exact ⟨mk_congr (f := fun j => sThere s' j && !sCalled s' j) (g := fun j => sThere s j && !sCalled s j) fun k hk => by rw [e1 k hk, e2 k hk], mk_congr (f := fun j => sThere s' j && sCalled s' j) (g := fun j => sThere s j && sCalled s j) fun k hk => by rw [e1 k hk, e2 k hk]⟩
theorem vP2_cg {s s' : Nat → Int32} (h : ∀ j, j < 4 → s' (5 + 2 * j + 1) = s (5 + 2 * j + 1)) : vP s' 2 0 = vP s 2 0 :=
  mk_congr (f := fun j => decide (s' (5 + 2 * j + 1) = 1)) (g := fun j => decide (s (5 + 2 * j + 1) = 1)) fun j hj => by rw [h j hj]
theorem closed_bt (s : Nat → Int32) {j : Nat} (hj : j < 4) : Bt (vP s 2 0) j = decide (s (5 + 2 * j + 1) = 1) := by
  show Bt (mk _ 4) j = _
  rw [bt_mk _ _ _ (by decide)]; simp [hj]
theorem upd_ne {s : Nat → Int32} {q r : Nat} {v : Int32} (h : r ≠ q) : upd s q v r = s r := if_neg h
theorem upd_eq {s : Nat → Int32} {q : Nat} {v : Int32} : upd s q v q = v := if_pos rfl
/-- the same pledges -/
theorem PKt.cg {s s' : Nat → Int32} {np nq np' nq' mm : Nat} {τ : Nat → Nat} {k : Nat} (hF : ∀ f, f < 8 → sF s' k f = sF s k f) (hc : ∀ j, j < np → s' (5 + 2 * j + 1) = s (5 + 2 * j + 1)) (h1 : np ≤ np') (h2 : nq ≤ nq') (h : PKt s np nq mm τ k) : PKt s' np' nq' mm τ k := by
  obtain ⟨⟨i, hi, ei⟩, ⟨j, hj, ej, ec⟩, ⟨a, a1, a2, ea⟩, hk, ht, hl⟩ := h
  refine ⟨⟨i, by omega, (hF 1 (by decide)).trans ei⟩, ⟨j, by omega, (hF 2 (by decide)).trans ej, ?_⟩, ⟨a, a1, a2, (hF 3 (by decide)).trans ea⟩, ?_, (hF 7 (by decide)).trans ht, hl⟩
  · rw [hc j hj, ← ec]; unfold sCalled; rw [hF 6 (by decide)]
  · unfold KC; rw [hF 4 (by decide), hF 5 (by decide)]; exact hk
theorem Sim.np {P : Pl} {s : Nat → Int32} {mm : Nat} (h : Sim P s) (hI : Inv s mm) : ∃ np nq, np ≤ 4 ∧ nq ≤ 8 ∧ P 0 0 = nI np ∧ P 3 0 = nI nq ∧ s 0 = nI np ∧ s 1 = nI nq := by
  obtain ⟨np, nq, τ, h4, h8, e0, e1, -⟩ := hI
  exact ⟨np, nq, h4, h8, h.1.1.trans e0, h.1.2.2.1.trans e1, e0, e1⟩
theorem add_sm {P : Pl} {s : Nat → Int32} {mm : Nat} {g : Int32} (h : Sim P s) (hI : Inv s mm) : (cAdd P g).1 = (mAdd s g).1 ∧ Sim (cAdd P g).2 (mAdd s g).2 ∧ Inv (mAdd s g).2 mm := by
  have hI0 := hI
  obtain ⟨np, nq, τ, h4, h8, e0, e1, e2, hG, hz, hp, hj⟩ := hI
  have eP := h.1.1.trans e0
  unfold cAdd mAdd
  by_cases hr : rng 1 g 999 = true
  · rw [if_pos hr, if_pos hr]
    by_cases hn : np = 4
    · rw [if_pos (show (4 : Int32) ≤ P 0 0 by rw [eP, hn]; exact Int32.le_refl _), if_pos (show s 0 = 4 by rw [e0, hn]; rfl)]
      exact ⟨rfl, h, hI0⟩
    · rw [if_neg (show ¬ (4 : Int32) ≤ P 0 0 by rw [eP]; exact nI_ge (a := np) (b := 4) (by omega) (by decide)), if_neg (show ¬ s 0 = 4 by rw [e0]; exact fun q => hn (nI_inj (by omega) (by decide) q)), eP, e0, nI_tn (by omega)]
      have hF : ∀ k f, f < 8 → sF (upd (upd s (5 + 2 * np) g) 0 (nI np + 1)) k f = sF s k f := fun k f hf => by
        unfold sF; rw [upd_ne (by omega), upd_ne (by omega)]
      have hC : ∀ j, (upd (upd s (5 + 2 * np) g) 0 (nI np + 1)) (5 + 2 * j + 1) = s (5 + 2 * j + 1) := fun j => by rw [upd_ne (by omega), upd_ne (by omega)]
      have hv := vP67_cg (s := s) (s' := upd (upd s (5 + 2 * np) g) 0 (nI np + 1)) fun k _ => ⟨hF k 0 (by decide), hF k 6 (by decide)⟩
      obtain ⟨⟨s0, s2, s3, s6, s7, s14, s15, s16⟩, q1, q4, q8⟩ := h
      refine ⟨rfl, show Sim (us (ua P 1 (upd (P 1) np g)) 0 (nI np + 1)) (upd (upd s (5 + 2 * np) g) 0 (nI np + 1)) from ⟨⟨(upd_eq (s := upd s (5 + 2 * np) g) (q := 0) (v := nI np + 1)).symm, ?_, ?_, ?_, ?_, ?_, ?_, ?_⟩, fun k hk => ?_, fun k hk => ⟨?_, ?_⟩, fun k hk ht => ?_⟩, show Inv (upd (upd s (5 + 2 * np) g) 0 (nI np + 1)) mm from ⟨np + 1, nq, τ, by omega, h8, ?_, ?_, ?_, fun j hjn => ?_, fun k hk ht => ?_, fun k hk ht => ?_, fun k j hk hj' ht ht' => ?_⟩⟩
      · exact s2.trans (vP2_cg fun j _ => hC j).symm
      · exact s3.trans (by rw [upd_ne (by omega), upd_ne (by omega)])
      · exact s6.trans hv.1.symm
      · exact s7.trans hv.2.symm
      · exact s14.trans (by rw [upd_ne (by omega), upd_ne (by omega)])
      · exact s15.trans (by rw [upd_ne (by omega), upd_ne (by omega)])
      · exact s16.trans (by rw [upd_ne (by omega), upd_ne (by omega)])
      · show upd (P 1) np g k = _
        by_cases hk' : k = np
        · rw [hk', upd_eq, upd_ne (by omega), upd_eq]
        · rw [upd_ne hk', upd_ne (by omega), upd_ne (by omega)]; exact q1 k hk
      · exact (q4 k hk).1.trans (by rw [upd_ne (by omega), upd_ne (by omega)])
      · exact (q4 k hk).2.trans (by rw [upd_ne (by omega), upd_ne (by omega)])
      · have h0 := q8 k hk (by unfold sThere at ht ⊢; rw [hF k 0 (by decide)] at ht; exact ht)
        unfold SL at h0 ⊢
        rw [hF k 1 (by decide), hF k 2 (by decide), hF k 3 (by decide), hF k 4 (by decide), hF k 5 (by decide), hF k 7 (by decide)]
        exact h0
      · rw [upd_eq, nI_succ]
      · rw [upd_ne (by omega), upd_ne (by omega)]; exact e1
      · rw [upd_ne (by omega), upd_ne (by omega)]; exact e2
      · rw [upd_ne (by omega)]
        by_cases hj' : j = np
        · rw [hj', upd_eq]
          unfold rng at hr
          rw [Bool.and_eq_true] at hr
          have h1 := of_decide_eq_true hr.1
          have h9 := of_decide_eq_true hr.2
          obtain ⟨G, hG, rfl⟩ := nI_of (x := g) (fun q => absurd (Int32.lt_of_lt_of_le q (by decide : (0 : Int32) ≤ 1)) (le_n h1))
          exact ⟨G, (nI_leI (a := 1) (by decide) hG).mp h1, (nI_leI (b := 999) hG (by decide)).mp h9, rfl⟩
        · rw [upd_ne (by omega)]; exact hG j (by omega)
      · rw [hF k 0 (by decide)]
        exact hz k hk (by unfold sThere at ht ⊢; rw [hF k 0 (by decide)] at ht; exact ht)
      · exact PKt.cg (hF k) (fun j _ => hC j) (by omega) (Nat.le_refl _) (hp k hk (by unfold sThere at ht ⊢; rw [hF k 0 (by decide)] at ht; exact ht))
      · exact hj k j hk hj' (by unfold sThere at ht ⊢; rw [hF k 0 (by decide)] at ht; exact ht) (by unfold sThere at ht' ⊢; rw [hF j 0 (by decide)] at ht'; exact ht')
  · rw [if_neg hr, if_neg hr]
    exact ⟨rfl, h, hI0⟩
theorem come_sm {P : Pl} {s : Nat → Int32} {mm : Nat} {g : Int32} (h : Sim P s) (hI : Inv s mm) : (cCome P g).1 = (mCome s g).1 ∧ Sim (cCome P g).2 (mCome s g).2 ∧ Inv (mCome s g).2 mm := by
  have hI0 := hI
  obtain ⟨np, nq, τ, h4, h8, e0, e1, e2, hG, hz, hp, hj⟩ := hI
  have eP := h.1.2.2.1.trans e1
  unfold cCome mCome
  by_cases hr : rng 0 g 999 = true
  · rw [if_pos hr, if_pos hr]
    by_cases hn : nq = 8
    · rw [if_pos (show (8 : Int32) ≤ P 3 0 by rw [eP, hn]; exact Int32.le_refl _), if_pos (show s 1 = 8 by rw [e1, hn]; rfl)]
      exact ⟨rfl, h, hI0⟩
    · rw [if_neg (show ¬ (8 : Int32) ≤ P 3 0 by rw [eP]; exact nI_ge (a := nq) (b := 8) (by omega) (by decide)), if_neg (show ¬ s 1 = 8 by rw [e1]; exact fun q => hn (nI_inj (by omega) (by decide) q)), eP, e1, nI_tn (by omega)]
      have hF : ∀ k f, f < 8 → sF (upd (upd s (13 + 2 * nq) g) 1 (nI nq + 1)) k f = sF s k f := fun k f hf => by
        unfold sF; rw [upd_ne (by omega), upd_ne (by omega)]
      have hC : ∀ j, j < 4 → (upd (upd s (13 + 2 * nq) g) 1 (nI nq + 1)) (5 + 2 * j + 1) = s (5 + 2 * j + 1) := fun j hj => by rw [upd_ne (by omega), upd_ne (by omega)]
      have hv := vP67_cg (s := s) (s' := upd (upd s (13 + 2 * nq) g) 1 (nI nq + 1)) fun k _ => ⟨hF k 0 (by decide), hF k 6 (by decide)⟩
      obtain ⟨⟨s0, s2, s3, s6, s7, s14, s15, s16⟩, q1, q4, q8⟩ := h
      refine ⟨rfl, show Sim (us (ua P 4 (upd (P 4) nq g)) 3 (nI nq + 1)) (upd (upd s (13 + 2 * nq) g) 1 (nI nq + 1)) from ⟨⟨?_, ?_, (upd_eq (s := upd s (13 + 2 * nq) g) (q := 1) (v := nI nq + 1)).symm, ?_, ?_, ?_, ?_, ?_⟩, fun k hk => ?_, fun k hk => ⟨?_, ?_⟩, fun k hk ht => ?_⟩, show Inv (upd (upd s (13 + 2 * nq) g) 1 (nI nq + 1)) mm from ⟨np, nq + 1, τ, h4, by omega, ?_, ?_, ?_, fun j hjn => ?_, fun k hk ht => ?_, fun k hk ht => ?_, fun k j hk hj' ht ht' => ?_⟩⟩
      · exact s0.trans (by rw [upd_ne (by omega), upd_ne (by omega)])
      · exact s2.trans (vP2_cg hC).symm
      · exact s6.trans hv.1.symm
      · exact s7.trans hv.2.symm
      · exact s14.trans (by rw [upd_ne (by omega), upd_ne (by omega)])
      · exact s15.trans (by rw [upd_ne (by omega), upd_ne (by omega)])
      · exact s16.trans (by rw [upd_ne (by omega), upd_ne (by omega)])
      · exact (q1 k hk).trans (by rw [upd_ne (by omega), upd_ne (by omega)])
      · show upd (P 4) nq g k = _
        by_cases hk' : k = nq
        · rw [hk', upd_eq, upd_ne (by omega), upd_eq]
        · rw [upd_ne hk', upd_ne (by omega), upd_ne (by omega)]; exact (q4 k hk).1
      · exact (q4 k hk).2.trans (by rw [upd_ne (by omega), upd_ne (by omega)])
      · have h0 := q8 k hk (by unfold sThere at ht ⊢; rw [hF k 0 (by decide)] at ht; exact ht)
        unfold SL at h0 ⊢
        rw [hF k 1 (by decide), hF k 2 (by decide), hF k 3 (by decide), hF k 4 (by decide), hF k 5 (by decide), hF k 7 (by decide)]
        exact h0
      · rw [upd_ne (by omega), upd_ne (by omega)]; exact e0
      · rw [upd_eq, nI_succ]
      · rw [upd_ne (by omega), upd_ne (by omega)]; exact e2
      · rw [upd_ne (by omega), upd_ne (by omega)]; exact hG j hjn
      · rw [hF k 0 (by decide)]
        exact hz k hk (by unfold sThere at ht ⊢; rw [hF k 0 (by decide)] at ht; exact ht)
      · exact PKt.cg (hF k) (fun j hj => hC j (by omega)) (Nat.le_refl _) (by omega) (hp k hk (by unfold sThere at ht ⊢; rw [hF k 0 (by decide)] at ht; exact ht))
      · exact hj k j hk hj' (by unfold sThere at ht ⊢; rw [hF k 0 (by decide)] at ht; exact ht) (by unfold sThere at ht' ⊢; rw [hF j 0 (by decide)] at ht'; exact ht')
  · rw [if_neg hr, if_neg hr]
    exact ⟨rfl, h, hI0⟩
