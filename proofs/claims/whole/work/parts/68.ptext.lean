/-! texts: the class's and the reference's; flags -/
/-- a pledge is called or not -/
def Fl (s : Nat → Int32) : Prop := ∀ k, k < 12 → sF s k 6 = 0 ∨ sF s k 6 = 1
theorem fl_do {s : Nat → Int32} {mm : Nat} {x : Ex} {c : Int32} {N : Nat → Int32} (h : Fl s) (hI : Inv s mm) : Fl (mDo s x c N).2 := by
  unfold mDo
  by_cases c1 : c = 103
  · rw [if_pos c1]
    unfold mAdd
    by_cases h1 : rng 1 (N 0) 999 = true
    · rw [if_pos h1]
      by_cases h2 : s 0 = 4
      · rw [if_pos h2]; exact h
      · rw [if_neg h2]
        intro k hk
        show upd (upd s (5 + 2 * (s 0).toNatClampNeg) (N 0)) 0 (s 0 + 1) (29 + 8 * k + 6) = 0 ∨ upd (upd s (5 + 2 * (s 0).toNatClampNeg) (N 0)) 0 (s 0 + 1) (29 + 8 * k + 6) = 1
        obtain ⟨np, nq, τ, h4, -, e0, -⟩ := hI
        rw [e0, nI_tn (by omega), upd_ne (by omega), upd_ne (by omega)]
        exact h k hk
    · rw [if_neg h1]; exact h
  rw [if_neg c1]
  by_cases c2 : c = 104
  · rw [if_pos c2]
    unfold mCome
    by_cases h1 : rng 0 (N 0) 999 = true
    · rw [if_pos h1]
      by_cases h2 : s 1 = 8
      · rw [if_pos h2]; exact h
      · rw [if_neg h2]
        intro k hk
        show upd (upd s (13 + 2 * (s 1).toNatClampNeg) (N 0)) 1 (s 1 + 1) (29 + 8 * k + 6) = 0 ∨ upd (upd s (13 + 2 * (s 1).toNatClampNeg) (N 0)) 1 (s 1 + 1) (29 + 8 * k + 6) = 1
        obtain ⟨np, nq, τ, -, h8, -, e1, -⟩ := hI
        have h8' : nq < 8 := by
          rcases Nat.lt_or_ge nq 8 with q | q
          · exact q
          · exact absurd (by rw [e1, show nq = 8 by omega]; rfl) h2
        rw [e1, nI_tn (by omega), upd_ne (by omega), upd_ne (by omega)]
        exact h k hk
    · rw [if_neg h1]; exact h
  rw [if_neg c2]
  by_cases c3 : c = 112
  · rw [if_pos c3]
    unfold mMk
    split
    · split
      · exact h
      · split
        · exact h
        · intro k hk
          rw [show sF (frees s, mSt s (frees s).toNatClampNeg (N 0) (N 1) (N 2) (N 3) (N 4)).2 k 6 = _ from mSt_slot k 6 (by decide)]
          by_cases hkk : k = (frees s).toNatClampNeg
          · rw [if_pos hkk]; exact Or.inl rfl
          · rw [if_neg hkk]; exact h k hk
    · exact h
  rw [if_neg c3]
  by_cases c4 : c = 119
  · rw [if_pos c4]
    unfold mWd
    split
    · split
      · exact h
      · intro k hk
        show sF (sWdr s _) k 6 = 0 ∨ sF (sWdr s _) k 6 = 1
        rw [sWdr_slot k 6 (by decide)]
        by_cases hkk : k = (N 0).toNatClampNeg
        · rw [if_pos hkk]; exact Or.inl rfl
        · rw [if_neg hkk]; exact h k hk
    · exact h
  rw [if_neg c4]
  unfold mCa
  split
  · split
    · exact h
    · rename_i hr _
      obtain ⟨np, nq, τ, h4, -, e0, -⟩ := id hI
      rw [e0] at hr
      obtain ⟨t, ht, et⟩ := rng_pred (by omega) hr
      intro k hk
      have m3 := (mCl_all (gOK_for hI (N 0) (std (vP s) x 0)) 12 (Nat.le_refl _)).2.2 k 6 (by decide)
      rw [if_pos hk] at m3
      have e : sF (upd (upd (mCl s (forP (vP s) (N 0)) (std (vP s) x 0) 12) (5 + 2 * (N 0).toNatClampNeg + 1) 1) 4 (mCl s (forP (vP s) (N 0)) (std (vP s) x 0) 12 4 + sm (fun k => if Bt (forP (vP s) (N 0) &&& std (vP s) x 0) k = true then sF s k 3 else 0) 12)) k 6 = sF (mCl s (forP (vP s) (N 0)) (std (vP s) x 0) 12) k 6 := by
        unfold sF
        rw [et, nI_tn (by omega), upd_ne (by omega), upd_ne (by omega)]
      show sF (upd (upd (mCl s (forP (vP s) (N 0)) (std (vP s) x 0) 12) (5 + 2 * (N 0).toNatClampNeg + 1) 1) 4 _) k 6 = 0 ∨ sF (upd (upd (mCl s (forP (vP s) (N 0)) (std (vP s) x 0) 12) (5 + 2 * (N 0).toNatClampNeg + 1) 1) 4 _) k 6 = 1
      rw [e, m3]
      by_cases b1 : Bt (forP (vP s) (N 0) &&& std (vP s) x 0) k = true
      · rw [if_pos b1, if_pos rfl]; exact Or.inr rfl
      · rw [if_neg b1]
        by_cases b2 : Bt (forP (vP s) (N 0)) k = true
        · rw [if_pos b2]; exact Or.inl rfl
        · rw [if_neg b2]; exact h k hk
  · exact h
theorem prN_cg {T : Nat → Int32} {n p : Nat} {N N' : Nat → Int32} : ∀ K k, k < K → prN T n p N K k = prN T n p N' K k
  | 0, k, h => absurd h (by omega)
  | K + 1, k, h => by
    rw [prN, prN]
    by_cases hk : k = K
    · rw [hk, upd_eq, upd_eq]
    · rw [upd_ne hk, upd_ne hk]; exact prN_cg K k (by omega)
theorem cF_cmd {T : Nat → Int32} {n p : Nat} (h : cF T n p = true) : cmdS (chM T n p) = true := by
  cases hc : cmdS (chM T n p)
  · unfold cF at h
    rw [prF_no (k := 0) (show prF T n p (chM T n p) 0 = false from hc) _ (Nat.zero_le _), Bool.false_and] at h
    cases h
  · rfl
theorem cmd_cases {c : Int32} (h : cmdS c = true) : c = 103 ∨ c = 104 ∨ c = 112 ∨ c = 119 ∨ c = 99 := by
  unfold cmdS at h
  rw [Bool.or_eq_true, Bool.or_eq_true, Bool.or_eq_true, Bool.or_eq_true] at h
  rcases h with h | h | h | h | h
  · exact Or.inl (of_decide_eq_true h)
  · exact Or.inr (Or.inl (of_decide_eq_true h))
  · exact Or.inr (Or.inr (Or.inl (of_decide_eq_true h)))
  · exact Or.inr (Or.inr (Or.inr (Or.inl (of_decide_eq_true h))))
  · exact Or.inr (Or.inr (Or.inr (Or.inr (of_decide_eq_true h))))
/-- what a try of the class and one of the reference have in common -/
def Rel (c : Nat × Pl × Int32 × Int32 × Int32) (r : Int32 × (Nat → Int32) × Int32 × Int32) (mm b : Nat) : Prop :=
  (c.2.2 = (-4, -4, -4) ∧ r.1 = -1 - nI c.1 ∧ Sim c.2.1 r.2.1 ∧ Fl r.2.1 ∧ ∃ m', m' ≤ mm + b ∧ Inv r.2.1 m') ∨
  (0 ≤ r.1 ∧ c.2.2.1 = r.1 ∧ c.2.2.2.1 = r.2.2.1 ∧ c.2.2.2.1 ≠ -4 ∧ c.2.2.2.2 = if r.2.2.1 = 1 then -4 else r.2.2.2)
theorem rn_sm {T : Nat → Int32} {n : Nat} {x : Ex} (hx : x.1 = -1) (hn : n ≤ 80) : ∀ (f p m : Nat) (P : Pl) (s N N' : Nat → Int32) (mm : Nat), Sim P s → Inv s mm → Fl s → p < 200 → Rel (cRn T n f p m P N) (mRun T n x f p m s N') mm f
  | 0, p, m, P, s, N, N', mm, h, hI, hF, _ => Or.inl ⟨rfl, rfl, h, hF, mm, by omega, hI⟩
  | f + 1, p, m, P, s, N, N', mm, h, hI, hF, hp => by
    rw [cRn, mRun]
    by_cases hpn : p < n
    · rw [if_pos hpn, if_pos hpn]
      unfold mCm
      by_cases hf : cF T n p = false
      · rw [if_pos hf, if_pos hf]
        exact Or.inr ⟨nI_pos' (show p < 2 ^ 31 by omega), rfl, rfl, show (1 : Int32) ≠ -4 by decide, rfl⟩
      · have hf' : cF T n p = true := by simpa using hf
        rw [if_neg hf, if_neg hf, if_pos hf']
        have hd := do_sm (x := x) (N := cN T n p N) (N' := cN T n p N') h hI hx (cmd_cases (cF_cmd hf')) (fun k hk => prN_cg _ k hk)
        obtain ⟨d1, d2, m', d3, d4⟩ := hd
        by_cases ha : (cDo P (chM T n p) (cN T n p N)).1 < 0
        · rw [if_pos ha, if_pos (by rw [← d1]; exact ha)]
          exact Or.inr ⟨nI_pos' (show p < 2 ^ 31 by omega), rfl, rfl, show (2 : Int32) ≠ -4 by decide, d1⟩
        · rw [if_neg ha, if_neg (by rw [← d1]; exact ha)]
          obtain ⟨g1, g2⟩ := cP_gt T n p
          have ih := rn_sm (T := T) (n := n) hx hn f (cP T n p) (m + 1) _ _ (cN T n p N) (cN T n p N') m' d2 d4 (fl_do hF hI) (by omega)
          rcases ih with ⟨a1, a2, a3, a4, a5, a6, a7⟩ | ih
          · exact Or.inl ⟨a1, a2, a3, a4, a5, by omega, a7⟩
          · exact Or.inr ih
    · rw [if_neg hpn, if_neg hpn]
      exact Or.inl ⟨rfl, rfl, h, hF, mm, by omega, hI⟩
theorem m1_sub (m : Nat) : (-1 : Int32) - (-1 - nI m) = nI m := by
  rw [Int32.sub_eq_add_neg, Int32.neg_sub, Int32.add_comm, Int32.sub_add_cancel]
theorem fa_sm {P S M : Pl} {s : Nat → Int32} {l mm : Nat} {what : Int32} (h : Sim P s) (hI : Inv s mm) (hF : Fl s) (hx : M 6 0 = -1) (hT : S 0 = M 4) (hl : l ≤ 80) : cFa S l P what = qFa M l s what := by
  have hr := rn_sm (T := M 4) (n := l) (x := mX M) hx hl (l + 1) 0 0 P s (S 2) (M 14) mm h hI hF (by omega)
  have hle := cRn_le (M 4) l (l + 1) 0 0 P (S 2)
  unfold cFa qFa
  by_cases h2 : rng 0 what 2 = true
  · rw [if_pos h2, if_pos h2]
    have e : cTr S l P = cRn (M 4) l (l + 1) 0 0 P (S 2) := by unfold cTr; rw [hT]
    have e2 : rRun M l s = mRun (M 4) l (mX M) (l + 1) 0 0 s (M 14) := rfl
    rw [e, e2]
    obtain ⟨c, hc⟩ : ∃ c, c = cRn (M 4) l (l + 1) 0 0 P (S 2) := ⟨_, rfl⟩
    obtain ⟨r, hrr⟩ : ∃ r, r = mRun (M 4) l (mX M) (l + 1) 0 0 s (M 14) := ⟨_, rfl⟩
    rw [← hc, ← hrr] at hr
    rw [← hc] at hle
    rw [← hc, ← hrr]
    rcases hr with ⟨a1, a2, -⟩ | ⟨b1, b2, b3, b4, b5⟩
    · rw [if_pos (show r.1 < 0 by rw [a2]; exact nle (neg1 (by omega))), show c.2.2.1 = -4 by rw [a1], show c.2.2.2.1 = -4 by rw [a1], show c.2.2.2.2 = -4 by rw [a1]]
      split
      · rfl
      · split <;> rfl
    · rw [if_neg (le_n b1), b2, b3, b5]
  · rw [if_neg h2, if_neg h2]
