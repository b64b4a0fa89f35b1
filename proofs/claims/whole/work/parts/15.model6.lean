/-! the reference: a project called in -/
def mPay (s : Nat → Int32) (k i : Nat) : Nat → Int32 :=
  upd (upd (upd s (29 + 8 * k + 6) 1) (13 + 2 * i) (s (13 + 2 * i) - sF s k 3)) (13 + 2 * i + 1) (s (13 + 2 * i + 1) + sF s k 3)
def mStep (s : Nat → Int32) (A S : Int32) (k : Nat) : Nat → Int32 :=
  if Bt (A &&& S) k = true then mPay s k (sF s k 1).toNatClampNeg
  else if Bt A k = true then fgt s k else s
def mCl (s : Nat → Int32) (A S : Int32) : Nat → (Nat → Int32)
  | 0 => s
  | n + 1 => mStep (mCl s A S n) A S n
/-- the givers of a set are persons -/
def gOK (s : Nat → Int32) (T : Int32) : Prop := ∀ k, k < 12 → Bt T k = true → ∃ i, i < 8 ∧ sF s k 1 = nI i
theorem sF_pay {s : Nat → Int32} {k i j f : Nat} (hi : i < 8) (hf : f < 8) (h : j ≠ k ∨ f ≠ 6) : sF (mPay s k i) j f = sF s j f := by
  unfold sF mPay upd
  rw [if_neg (by omega), if_neg (by omega), if_neg (by omega)]
theorem mCl_slot {s : Nat → Int32} {A S : Int32} (hg : gOK s (A &&& S)) : ∀ {n : Nat}, n ≤ 12 → ∀ j, n ≤ j → ∀ f, f < 8 → sF (mCl s A S n) j f = sF s j f
  | 0, _, _, _, _, _ => rfl
  | n + 1, hn, j, hj, f, hf => by
    have ih := mCl_slot hg (n := n) (by omega)
    show sF (mStep (mCl s A S n) A S n) j f = _
    unfold mStep
    by_cases h1 : Bt (A &&& S) n = true
    · rw [if_pos h1, ih n (Nat.le_refl _) 1 (by decide)]
      obtain ⟨i, hi, e⟩ := hg n (by omega) h1
      rw [e, nI_tn (by omega), sF_pay hi hf (Or.inl (by omega))]
      exact ih j (by omega) f hf
    · rw [if_neg h1]
      by_cases h2 : Bt A n = true
      · rw [if_pos h2]
        unfold sF fgt
        rw [if_neg (by omega)]
        exact ih j (by omega) f hf
      · rw [if_neg h2]
        exact ih j (by omega) f hf
def mCa (s : Nat → Int32) (x : Ex) (v : Int32) : Int32 × (Nat → Int32) :=
  if rng 0 v (s 0 - 1) = true then
    (if (decide (s (5 + 2 * v.toNatClampNeg + 1) = 1) || !hasG (vP s) x (std (vP s) x 0) v) = true then (-2, s)
     else (sm (fun k => if Bt (forP (vP s) v &&& std (vP s) x 0) k = true then sF s k 3 else 0) 12,
       upd (upd (mCl s (forP (vP s) v) (std (vP s) x 0) 12) (5 + 2 * v.toNatClampNeg + 1) 1) 4 (mCl s (forP (vP s) v) (std (vP s) x 0) 12 4 + sm (fun k => if Bt (forP (vP s) v &&& std (vP s) x 0) k = true then sF s k 3 else 0) 12)))
  else (-1, s)
theorem c_X5_calls {M : Pl} {b np : Nat} {s : Nat → Int32} {v : Int32} {w : Wd} (hok : sOK s) (hn : s 0 = nI np) (h4 : np ≤ 4) (hg : ∀ j, gOK s (forP (vP s) (nI j) &&& std (vP s) (mX M) 0)) : K_X5_calls [.ref b, .int v] (mz w b M s) (RM (mCa s (mX M) v) w b M) := by
  refine Con.mk [some (.ref b), some (.int v), none, none, none, none] (by decide) rfl rfl (Nat.le_of_ble_eq_true rfl) (fun X h hR hnm => ?_)
  have L : ∀ (M' : Pl) (jj : Nat) (A S : Int32), gOK s (A &&& S) → ∀ (d n : Nat) (t : Int32), n + d = 12 → t = sm (fun k => if Bt (A &&& S) k = true then sF s k 3 else 0) n →
      (∀ t : Int32, t = sm (fun k => if Bt (A &&& S) k = true then sF s k 3 else 0) 12 → V X 0 0 175 [some (.ref b), some (.int (nI jj)), some (.int S), some (.int A), some (.int t), some (.int (nI 12))] [] (mz w b M' (mCl s A S 12))) →
      V X 0 0 48 [some (.ref b), some (.int (nI jj)), some (.int S), some (.int A), some (.int t), some (.int (nI n))] [] (mz w b M' (mCl s A S n)) := by
    intro M' jj A S hgS d
    induction d with
    | zero =>
      intro n t hnd ht k
      obtain rfl : n = 12 := by omega
      refine V.iload5 h 50 dX5_calls_48 rfl (V.bipush h 52 dX5_calls_50 rfl ic2_12 ?_)
      refine V.icmp_ge h 175 55 dX5_calls_52 rfl rfl (fun _ => ?_) (fun q => absurd (lp_out (n := 12)) q)
      exact k t ht
    | succ d ih =>
      intro n t hnd ht k
      have hsl := mCl_slot hgS (n := n) (by omega) n (Nat.le_refl _)
      refine V.iload5 h 50 dX5_calls_48 rfl (V.bipush h 52 dX5_calls_50 rfl ic2_12 ?_)
      refine V.icmp_ge h 175 55 dX5_calls_52 rfl rfl (fun q => absurd q (lp_in (n := 12) (by omega))) (fun _ => ?_)
      refine V.iload3 h 56 dX5_calls_55 rfl (V.iload2 h 57 dX5_calls_56 rfl (V.iand h 58 dX5_calls_57 rfl (V.iload5 h 60 dX5_calls_58 rfl (V.callSf (As := [.int _, .int _]) (st := []) h 63 dX5_calls_60 rfl k663 k661 k662 k6 hd_X5_has ⟨(Nat.le_of_ble_eq_true rfl), (Nat.le_of_ble_eq_true rfl)⟩ (Nat.le_of_ble_eq_true rfl) ⟨Nat.zero_le _, Nat.zero_le _⟩ (c_X5_has (by omega)) rfl ?_))))
      refine V.bif_eq h 154 66 dX5_calls_63 rfl rfl (fun c63 => ?_) (fun c63 => ?_)
      · refine V.iload3 h 155 dX5_calls_154 rfl (V.iload5 h 157 dX5_calls_155 rfl (V.callSf (As := [.int _, .int _]) (st := []) h 160 dX5_calls_157 rfl k663 k661 k662 k6 hd_X5_has ⟨(Nat.le_of_ble_eq_true rfl), (Nat.le_of_ble_eq_true rfl)⟩ (Nat.le_of_ble_eq_true rfl) ⟨Nat.zero_le _, Nat.zero_le _⟩ (c_X5_has (by omega)) rfl ?_))
        refine V.bif_eq h 169 163 dX5_calls_160 rfl rfl (fun c160 => ?_) (fun c160 => ?_)
        · refine V.incN5 h 172 dX5_calls_169 rfl rfl (V.goto h 48 dX5_calls_172 rfl ?_)
          first
          | (refine V.at _ (congrArg (fun z => mz w b M' z) (show _ = mCl s A S (n + 1) by rw [est]; unfold mPay; rw [hsl 3 (by decide)])) ?_; exact ih (n + 1) _ (by omega) (stp0 ht (by rw [if_pos c63])) k)
          | (refine V.at _ (congrArg (fun z => mz w b M' z) (show fgt (mCl s A S n) n = mCl s A S (n + 1) by show _ = mStep _ A S n; unfold mStep; rw [if_neg (by rw [c63]; decide), if_pos c160])) ?_; exact ih (n + 1) t (by omega) (by rw [ht, sm_s, if_neg (by rw [c63]; decide), Int32.add_zero]) k)
          | (refine V.at _ (congrArg (fun z => mz w b M' z) (show mCl s A S n = mCl s A S (n + 1) by show _ = mStep _ A S n; unfold mStep; rw [if_neg (by rw [c63]; decide), if_neg (by rw [c160]; decide)])) ?_; exact ih (n + 1) t (by omega) (by rw [ht, sm_s, if_neg (by rw [c63]; decide), Int32.add_zero]) k)
        · refine V.aload0 h 164 dX5_calls_163 rfl (V.iload5 h 166 dX5_calls_164 rfl (V.callVfv (As := [.int _]) (st := []) h 169 dX5_calls_166 rfl k719 k716 k718 ks79 k6 hd_X5_forgets ⟨(Nat.le_of_ble_eq_true rfl), (Nat.le_of_ble_eq_true rfl)⟩ (Nat.le_of_ble_eq_true rfl) mo rfl rfl ⟨Nat.zero_le _, Nat.zero_le _⟩ (c_X5_forgets (by omega)) rfl (V.incN5 h 172 dX5_calls_169 rfl rfl (V.goto h 48 dX5_calls_172 rfl ?_))))
          first
          | (refine V.at _ (congrArg (fun z => mz w b M' z) (show _ = mCl s A S (n + 1) by rw [est]; unfold mPay; rw [hsl 3 (by decide)])) ?_; exact ih (n + 1) _ (by omega) (stp0 ht (by rw [if_pos c63])) k)
          | (refine V.at _ (congrArg (fun z => mz w b M' z) (show fgt (mCl s A S n) n = mCl s A S (n + 1) by show _ = mStep _ A S n; unfold mStep; rw [if_neg (by rw [c63]; decide), if_pos c160])) ?_; exact ih (n + 1) t (by omega) (by rw [ht, sm_s, if_neg (by rw [c63]; decide), Int32.add_zero]) k)
          | (refine V.at _ (congrArg (fun z => mz w b M' z) (show mCl s A S n = mCl s A S (n + 1) by show _ = mStep _ A S n; unfold mStep; rw [if_neg (by rw [c63]; decide), if_neg (by rw [c160]; decide)])) ?_; exact ih (n + 1) t (by omega) (by rw [ht, sm_s, if_neg (by rw [c63]; decide), Int32.add_zero]) k)
      · obtain ⟨i, hi, e1⟩ := hgS n (by omega) c63
        have est : mCl s A S (n + 1) = mPay (mCl s A S n) n i := by
          show mStep (mCl s A S n) A S n = _
          unfold mStep
          rw [if_pos c63, hsl 1 (by decide), e1, nI_tn (by omega)]
        have u1 : ∀ f, f < 6 → sF (upd (mCl s A S n) (29 + 8 * n + 6) 1) n f = sF s n f := by
          intro f hf
          refine Eq.trans ?_ (hsl f (by omega))
          unfold sF upd
          rw [if_neg (by omega)]
        have u2 : ∀ f x, f < 6 → sF (upd (upd (mCl s A S n) (29 + 8 * n + 6) 1) (13 + 2 * i) x) n f = sF s n f := by
          intro f x hf
          refine Eq.trans ?_ (u1 f hf)
          unfold sF upd
          rw [if_neg (by omega), if_neg (by omega)]
        have u3 : ∀ f x y, f < 6 → sF (upd (upd (upd (mCl s A S n) (29 + 8 * n + 6) 1) (13 + 2 * i) x) (13 + 2 * i + 1) y) n f = sF s n f := by
          intro f x y hf
          refine Eq.trans ?_ (u2 f x hf)
          unfold sF upd
          rw [if_neg (by omega), if_neg (by omega), if_neg (by omega)]
        have v1 : upd (mCl s A S n) (29 + 8 * n + 6) 1 (13 + 2 * i) = mCl s A S n (13 + 2 * i) := by unfold upd; rw [if_neg (by omega)]
        have v2 : ∀ x, upd (upd (mCl s A S n) (29 + 8 * n + 6) 1) (13 + 2 * i) x (13 + 2 * i + 1) = mCl s A S n (13 + 2 * i + 1) := by intro x; unfold upd; rw [if_neg (by omega), if_neg (by omega)]
        refine V.aload0 h 67 dX5_calls_66 rfl (V.gX5 h 0 70 dX5_calls_67 rfl rfl k544 mo rfl (V.bipush h 72 dX5_calls_70 rfl ic2_29 (V.bipush h 74 dX5_calls_72 rfl ic2_8 (V.iload5 h 76 dX5_calls_74 rfl (V.imul h 77 dX5_calls_76 rfl (V.iadd h 78 dX5_calls_77 rfl (V.bipush h 80 dX5_calls_78 rfl ic2_6 ?_)))))))
        refine V.iadd h 81 dX5_calls_80 rfl ?_
        rw [show (29 : Int32) + 8 * nI n + 6 = nI (29 + 8 * n + 6) by rw [lit, lit, lit, pk_mul, nI_add, nI_add]]
        refine V.iconst h 82 dX5_calls_81 rfl ic1_1 (V.iastN h 83 dX5_calls_82 rfl za1 (by omega) (by decide) (V.at _ zw1 (V.aload0 h 84 dX5_calls_83 rfl (V.gX5 h 0 87 dX5_calls_84 rfl rfl k544 mo rfl (V.bipush h 89 dX5_calls_87 rfl ic2_13 (V.iconst h 90 dX5_calls_89 rfl ic1_2 (V.aload0 h 91 dX5_calls_90 rfl ?_)))))))
        refine V.iload5 h 93 dX5_calls_91 rfl (V.iconst h 94 dX5_calls_93 rfl ic1_1 (V.callVf (As := [.int _, .int _]) (st := [.int _, .int _, .ref _]) h 97 dX5_calls_94 rfl k648 k645 k647 ks63 k6 hd_X5_of ⟨(Nat.le_of_ble_eq_true rfl), (Nat.le_of_ble_eq_true rfl)⟩ (Nat.le_of_ble_eq_true rfl) mo rfl rfl ⟨Nat.zero_le _, Nat.zero_le _⟩ (c_of 1 rfl (by omega) (by decide)) rfl ?_))
        rw [u1 1 (by decide), e1]
        refine V.imul h 98 dX5_calls_97 rfl (V.iadd h 99 dX5_calls_98 rfl ?_)
        rw [show (13 : Int32) + 2 * nI i = nI (13 + 2 * i) by rw [lit, lit, pk_mul, nI_add]]
        refine V.dup2 h 100 dX5_calls_99 rfl rfl rfl (V.ialdN h 101 dX5_calls_100 rfl za1 (by omega) (by decide) ?_)
        rw [v1]
        refine V.aload0 h 102 dX5_calls_101 rfl (V.iload5 h 104 dX5_calls_102 rfl (V.iconst h 105 dX5_calls_104 rfl ic1_3 (V.callVf (As := [.int _, .int _]) (st := [.int _, .int _, .ref _]) h 108 dX5_calls_105 rfl k648 k645 k647 ks63 k6 hd_X5_of ⟨(Nat.le_of_ble_eq_true rfl), (Nat.le_of_ble_eq_true rfl)⟩ (Nat.le_of_ble_eq_true rfl) mo rfl rfl ⟨Nat.zero_le _, Nat.zero_le _⟩ (c_of 3 rfl (by omega) (by decide)) rfl ?_)))
        rw [u1 3 (by decide)]
        refine V.isub h 109 dX5_calls_108 rfl (V.iastN h 110 dX5_calls_109 rfl za1 (by omega) (by decide) (V.at _ zw1 (V.aload0 h 111 dX5_calls_110 rfl (V.gX5 h 0 114 dX5_calls_111 rfl rfl k544 mo rfl (V.bipush h 116 dX5_calls_114 rfl ic2_13 (V.iconst h 117 dX5_calls_116 rfl ic1_2 (V.aload0 h 118 dX5_calls_117 rfl ?_)))))))
        refine V.iload5 h 120 dX5_calls_118 rfl (V.iconst h 121 dX5_calls_120 rfl ic1_1 (V.callVf (As := [.int _, .int _]) (st := [.int _, .int _, .ref _]) h 124 dX5_calls_121 rfl k648 k645 k647 ks63 k6 hd_X5_of ⟨(Nat.le_of_ble_eq_true rfl), (Nat.le_of_ble_eq_true rfl)⟩ (Nat.le_of_ble_eq_true rfl) mo rfl rfl ⟨Nat.zero_le _, Nat.zero_le _⟩ (c_of 1 rfl (by omega) (by decide)) rfl ?_))
        rw [u2 1 _ (by decide), e1]
        refine V.imul h 125 dX5_calls_124 rfl (V.iadd h 126 dX5_calls_125 rfl (V.iconst h 127 dX5_calls_126 rfl ic1_1 (V.iadd h 128 dX5_calls_127 rfl ?_)))
        rw [show (13 : Int32) + 2 * nI i + 1 = nI (13 + 2 * i + 1) by rw [lit, lit, lit, pk_mul, nI_add, nI_add]]
        refine V.dup2 h 129 dX5_calls_128 rfl rfl rfl (V.ialdN h 130 dX5_calls_129 rfl za1 (by omega) (by decide) ?_)
        rw [v2]
        refine V.aload0 h 131 dX5_calls_130 rfl (V.iload5 h 133 dX5_calls_131 rfl (V.iconst h 134 dX5_calls_133 rfl ic1_3 (V.callVf (As := [.int _, .int _]) (st := [.int _, .int _, .ref _]) h 137 dX5_calls_134 rfl k648 k645 k647 ks63 k6 hd_X5_of ⟨(Nat.le_of_ble_eq_true rfl), (Nat.le_of_ble_eq_true rfl)⟩ (Nat.le_of_ble_eq_true rfl) mo rfl rfl ⟨Nat.zero_le _, Nat.zero_le _⟩ (c_of 3 rfl (by omega) (by decide)) rfl ?_)))
        rw [u2 3 _ (by decide)]
        refine V.iadd h 138 dX5_calls_137 rfl (V.iastN h 139 dX5_calls_138 rfl za1 (by omega) (by decide) (V.at _ zw1 (V.iload4 h 141 dX5_calls_139 rfl (V.aload0 h 142 dX5_calls_141 rfl (V.iload5 h 144 dX5_calls_142 rfl (V.iconst h 145 dX5_calls_144 rfl ic1_3 (V.callVf (As := [.int _, .int _]) (st := [.int _]) h 148 dX5_calls_145 rfl k648 k645 k647 ks63 k6 hd_X5_of ⟨(Nat.le_of_ble_eq_true rfl), (Nat.le_of_ble_eq_true rfl)⟩ (Nat.le_of_ble_eq_true rfl) mo rfl rfl ⟨Nat.zero_le _, Nat.zero_le _⟩ (c_of 3 rfl (by omega) (by decide)) rfl ?_)))))))
        rw [u3 3 _ _ (by decide)]
        refine V.iadd h 149 dX5_calls_148 rfl (V.istore4 h 151 dX5_calls_149 rfl rfl (V.goto h 169 dX5_calls_151 rfl (V.incN5 h 172 dX5_calls_169 rfl rfl (V.goto h 48 dX5_calls_172 rfl ?_))))
        first
        | (refine V.at _ (congrArg (fun z => mz w b M' z) (show _ = mCl s A S (n + 1) by rw [est]; unfold mPay; rw [hsl 3 (by decide)])) ?_; exact ih (n + 1) _ (by omega) (stp0 ht (by rw [if_pos c63])) k)
        | (refine V.at _ (congrArg (fun z => mz w b M' z) (show fgt (mCl s A S n) n = mCl s A S (n + 1) by show _ = mStep _ A S n; unfold mStep; rw [if_neg (by rw [c63]; decide), if_pos c160])) ?_; exact ih (n + 1) t (by omega) (by rw [ht, sm_s, if_neg (by rw [c63]; decide), Int32.add_zero]) k)
        | (refine V.at _ (congrArg (fun z => mz w b M' z) (show mCl s A S n = mCl s A S (n + 1) by show _ = mStep _ A S n; unfold mStep; rw [if_neg (by rw [c63]; decide), if_neg (by rw [c160]; decide)])) ?_; exact ih (n + 1) t (by omega) (by rw [ht, sm_s, if_neg (by rw [c63]; decide), Int32.add_zero]) k)
  refine V.aload0 h 1 dX5_calls_0 rfl (V.iload1 h 2 dX5_calls_1 rfl (V.callVf (As := [.int _]) (st := []) h 5 dX5_calls_2 rfl k632 k629 k631 ks59 k6 hd_X5_isProject ⟨(Nat.le_of_ble_eq_true rfl), (Nat.le_of_ble_eq_true rfl)⟩ (Nat.le_of_ble_eq_true rfl) mo rfl rfl ⟨Nat.zero_le _, Nat.zero_le _⟩ c_isProject rfl ?_))
  refine V.bif_ne h 10 8 dX5_calls_5 rfl rfl (fun c5 => ?_) (fun c5 => ?_)
  · obtain ⟨jj, hjj, rfl⟩ := rng_pred (by omega) (show rng 0 v (nI np - 1) = true by rw [← hn]; exact c5)
    have hj4 : jj < 4 := by omega
    have hmk : mCa s (mX M) (nI jj) = (if (decide (s (5 + 2 * jj + 1) = 1) || !hasG (vP s) (mX M) (std (vP s) (mX M) 0) (nI jj)) = true then (-2, s) else (sm (fun k => if Bt (forP (vP s) (nI jj) &&& std (vP s) (mX M) 0) k = true then sF s k 3 else 0) 12, upd (upd (mCl s (forP (vP s) (nI jj)) (std (vP s) (mX M) 0) 12) (5 + 2 * jj + 1) 1) 4 (mCl s (forP (vP s) (nI jj)) (std (vP s) (mX M) 0) 12 4 + sm (fun k => if Bt (forP (vP s) (nI jj) &&& std (vP s) (mX M) 0) k = true then sF s k 3 else 0) 12))) := by
      unfold mCa
      rw [show rng 0 (nI jj) (s 0 - 1) = true from c5, nI_tn (by omega)]
      rfl
    refine V.aload0 h 11 dX5_calls_10 rfl (V.iconst h 12 dX5_calls_11 rfl ic1_0 (V.callVf (As := [.int _]) (st := []) h 15 dX5_calls_12 rfl k683 k680 k682 ks70 k6 hd_X5_stands ⟨(Nat.le_of_ble_eq_true rfl), (Nat.le_of_ble_eq_true rfl)⟩ (Nat.le_of_ble_eq_true rfl) mo rfl rfl ⟨Nat.zero_le _, Nat.zero_le _⟩ (c_stands hok) rfl (V.istore2 h 16 dX5_calls_15 rfl rfl (V.aload0 h 17 dX5_calls_16 rfl (V.iload1 h 18 dX5_calls_17 rfl (V.callVf (As := [.int _]) (st := []) h 21 dX5_calls_18 rfl k640 k637 k639 ks61 k6 hd_X5_isClosed ⟨(Nat.le_of_ble_eq_true rfl), (Nat.le_of_ble_eq_true rfl)⟩ (Nat.le_of_ble_eq_true rfl) mo rfl rfl ⟨Nat.zero_le _, Nat.zero_le _⟩ (c_isClosed (by assumption)) rfl ?_))))))
    refine V.bif_ne h 33 24 dX5_calls_21 rfl rfl (fun c21 => ?_) (fun c21 => ?_)
    · refine V.bipush h 35 dX5_calls_33 rfl ic2_m2 ?_
      refine V.iret h hR dX5_calls_35 ?_
      first | exact RM_of (by rw [hmk, c21]; rfl) Sc.of_sc | exact RM_of (by rw [hmk, show hasG (vP s) (mX M) (std (vP s) (mX M) 0) (nI jj) = false from c30, Bool.not_false, Bool.or_true]; rfl) Sc.of_sc
    · refine V.aload0 h 25 dX5_calls_24 rfl (V.iload2 h 26 dX5_calls_25 rfl (V.iload1 h 27 dX5_calls_26 rfl (V.callVf (As := [.int _, .int _]) (st := []) h 30 dX5_calls_27 rfl k731 k728 k730 ks81 k6 hd_X5_hasGoal ⟨(Nat.le_of_ble_eq_true rfl), (Nat.le_of_ble_eq_true rfl)⟩ (Nat.le_of_ble_eq_true rfl) mo rfl rfl ⟨Nat.zero_le _, Nat.zero_le _⟩ (c_hasGoal (by assumption)) rfl ?_)))
      refine V.bif_ne h 36 33 dX5_calls_30 rfl rfl (fun c30 => ?_) (fun c30 => ?_)
      · refine V.aload0 h 37 dX5_calls_36 rfl (V.iload1 h 38 dX5_calls_37 rfl (V.callVf (As := [.int _]) (st := []) h 41 dX5_calls_38 rfl k735 k732 k734 ks82 k6 hd_X5_ofProject ⟨(Nat.le_of_ble_eq_true rfl), (Nat.le_of_ble_eq_true rfl)⟩ (Nat.le_of_ble_eq_true rfl) mo rfl rfl ⟨Nat.zero_le _, Nat.zero_le _⟩ c_ofProject rfl (V.istore3 h 42 dX5_calls_41 rfl rfl (V.iconst h 43 dX5_calls_42 rfl ic1_0 (V.istore4 h 45 dX5_calls_43 rfl rfl (V.iconst h 46 dX5_calls_45 rfl ic1_0 (V.istore5 h 48 dX5_calls_46 rfl rfl ?_)))))))
        refine L _ jj _ _ (hg jj) 12 0 0 rfl rfl ?_
        intro t ht
        refine V.aload0 h 176 dX5_calls_175 rfl (V.gX5 h 0 179 dX5_calls_176 rfl rfl k544 mo rfl (V.iconst h 180 dX5_calls_179 rfl ic1_5 (V.iconst h 181 dX5_calls_180 rfl ic1_2 (V.iload1 h 182 dX5_calls_181 rfl (V.imul h 183 dX5_calls_182 rfl (V.iadd h 184 dX5_calls_183 rfl (V.iconst h 185 dX5_calls_184 rfl ic1_1 ?_)))))))
        refine V.iadd h 186 dX5_calls_185 rfl ?_
        rw [show (5 : Int32) + 2 * nI jj + 1 = nI (5 + 2 * jj + 1) by rw [lit, lit, lit, pk_mul, nI_add, nI_add]]
        refine V.iconst h 187 dX5_calls_186 rfl ic1_1 (V.iastN h 188 dX5_calls_187 rfl za1 (by omega) (by decide) (V.at _ zw1 (V.aload0 h 189 dX5_calls_188 rfl (V.gX5 h 0 192 dX5_calls_189 rfl rfl k544 mo rfl (V.iconst h 193 dX5_calls_192 rfl ic1_4 (V.dup2 h 194 dX5_calls_193 rfl rfl rfl (V.ialdN (i := 4) h 195 dX5_calls_194 rfl za1 (by omega) (by decide) ?_)))))))
        rw [show ∀ f : Nat → Int32, upd f (5 + 2 * jj + 1) 1 4 = f 4 from fun f => by unfold upd; rw [if_neg (by omega)]]
        refine V.iload4 h 197 dX5_calls_195 rfl (V.iadd h 198 dX5_calls_197 rfl (V.iastN (i := 4) h 199 dX5_calls_198 rfl za1 (by omega) (by decide) (V.at _ zw1 (V.iload4 h 201 dX5_calls_199 rfl ?_))))
        refine V.iret h hR dX5_calls_201 ?_
        refine RM_of ?_ Sc.of_sc
        rw [hmk, if_neg (by rw [c21, show hasG (vP s) (mX M) (std (vP s) (mX M) 0) (nI jj) = true from c30]; decide), ht]
      · refine V.bipush h 35 dX5_calls_33 rfl ic2_m2 ?_
        refine V.iret h hR dX5_calls_35 ?_
        first | exact RM_of (by rw [hmk, c21]; rfl) Sc.of_sc | exact RM_of (by rw [hmk, show hasG (vP s) (mX M) (std (vP s) (mX M) 0) (nI jj) = false from c30, Bool.not_false, Bool.or_true]; rfl) Sc.of_sc
  · refine V.iconst h 9 dX5_calls_8 rfl ic1_m1 ?_
    refine V.iret h hR dX5_calls_9 ?_
    exact RM_of (by unfold mCa rng; rw [c5]; rfl) Sc.rf
