/-! the reference: orders, counts -/
/-- how many are ahead of k -/
def rnk (s : Nat → Int32) (x : Ex) (ord : Int32) (k : Nat) : Int32 := sm (fun o => if (!decide (o = k) && (sThere s o && ahd s (wav (vP s) x) o k ord (std (vP s) x 0))) = true then 1 else 0) 12
def ord1 (s : Nat → Int32) (x : Ex) (ord pl : Int32) : Nat → Bool := fun k => sThere s k && decide (rnk s x ord k = pl)
def qOr (s : Nat → Int32) (x : Ex) (ord pl : Int32) : Int32 :=
  if (rng 0 ord 2 && !decide (pl < 0)) = true then (if lf (ord1 s x ord pl) 0 12 = -1 then -4 else lf (ord1 s x ord pl) 0 12) else -1
theorem ifb {c : Bool} (h : c = true) : (if c = true then (1 : Int32) else 0) = 1 := by rw [if_pos h]
theorem ifnb {c : Bool} (h : c = false) : (if c = true then (1 : Int32) else 0) = 0 := by rw [h]; rfl
theorem ahd_wav {s : Nat → Int32} {x : Ex} {old : Nat → Int32} {a c : Nat} {ord : Int32} (ha : a < 12) (hc : c < 12) (hta : sThere s a = true) (htc : sThere s c = true) : ahd s (wvP (vP s) x 0 old) a c ord (std (vP s) x 0) = ahd s (wav (vP s) x) a c ord (std (vP s) x 0) := by
  unfold ahd
  have e1 : (if Bt (std (vP s) x 0) c = true then (100 : Int32) else wvP (vP s) x 0 old c) = (if Bt (std (vP s) x 0) c = true then 100 else wav (vP s) x c) := by
    cases h : Bt (std (vP s) x 0) c
    · rw [if_neg (by decide), if_neg (by decide), wav_of hc htc h]
    · rfl
  have e2 : (if Bt (std (vP s) x 0) a = true then (100 : Int32) else wvP (vP s) x 0 old a) = (if Bt (std (vP s) x 0) a = true then 100 else wav (vP s) x a) := by
    cases h : Bt (std (vP s) x 0) a
    · rw [if_neg (by decide), if_neg (by decide), wav_of ha hta h]
    · rfl
  rw [e1, e2]
theorem c_X5_orderAt {M : Pl} {b : Nat} {s : Nat → Int32} {ord pl : Int32} {w : Wd} (hok : sOK s) : K_X5_orderAt [.ref b, .int ord, .int pl] (mz w b M s) (RM (qOr s (mX M) ord pl, s) w b M) := by
  refine Con.mk [some (.ref b), some (.int ord), some (.int pl), none, none, none, none, none] (by decide) rfl rfl (Nat.le_of_ble_eq_true rfl) (fun X h hR hnm => ?_)
  have L2 : ∀ (M' : Pl) (k : Nat), M' 8 = wvP (vP s) (mX M) 0 (M 8) → k < 12 → sThere s k = true → ∀ (d n : Nat) (t : Int32), n + d = 12 → t = sm (fun o => if (!decide (o = k) && (sThere s o && ahd s (wav (vP s) (mX M)) o k ord (std (vP s) (mX M) 0))) = true then 1 else 0) n →
      (V X 0 0 107 [some (.ref b), some (.int ord), some (.int pl), some (.int (live (vP s))), some (.int (std (vP s) (mX M) 0)), some (.int (nI k)), some (.int (rnk s (mX M) ord k)), some (.int (nI 12))] [] (mz w b M' s)) →
      V X 0 0 45 [some (.ref b), some (.int ord), some (.int pl), some (.int (live (vP s))), some (.int (std (vP s) (mX M) 0)), some (.int (nI k)), some (.int t), some (.int (nI n))] [] (mz w b M' s) := by
    intro M' k hM hk htk d
    induction d with
    | zero =>
      intro n t hnd ht kk
      obtain rfl : n = 12 := by omega
      refine V.iload7 h 47 dX5_orderAt_45 rfl (V.bipush h 49 dX5_orderAt_47 rfl ic2_12 ?_)
      refine V.icmp_ge h 107 52 dX5_orderAt_49 rfl rfl (fun _ => ?_) (fun q => absurd (lp_out (n := 12)) q)
      rw [ht]; exact kk
    | succ d ih =>
      intro n t hnd ht kk
      have hlk : Bt (live (vP s)) k = true := by rw [live_bt s hk]; exact htk
      refine V.iload7 h 47 dX5_orderAt_45 rfl (V.bipush h 49 dX5_orderAt_47 rfl ic2_12 ?_)
      refine V.icmp_ge h 107 52 dX5_orderAt_49 rfl rfl (fun q => absurd q (lp_in (n := 12) (by omega))) (fun _ => ?_)
      refine V.iload3 h 53 dX5_orderAt_52 rfl (V.iload5 h 55 dX5_orderAt_53 rfl (V.callSf (As := [.int _, .int _]) (st := []) h 58 dX5_orderAt_55 rfl k663 k661 k662 k6 hd_X5_has ⟨(Nat.le_of_ble_eq_true rfl), (Nat.le_of_ble_eq_true rfl)⟩ (Nat.le_of_ble_eq_true rfl) ⟨Nat.zero_le _, Nat.zero_le _⟩ (c_X5_has (by omega)) rfl ?_))
      refine V.bif_eq h 107 61 dX5_orderAt_58 rfl rfl (fun q => absurd ((Eq.symm hlk).trans q) (by decide)) (fun _ => ?_)
      refine V.iload6 h 63 dX5_orderAt_61 rfl (V.iload7 h 65 dX5_orderAt_63 rfl (V.iload5 h 67 dX5_orderAt_65 rfl ?_))
      refine V.icmp_eq h 97 70 dX5_orderAt_67 rfl rfl (fun c67 => ?_) (fun c67 => ?_)
      · refine V.iconst h 98 dX5_orderAt_97 rfl ic1_0 (V.iadd h 99 dX5_orderAt_98 rfl (V.istore6 h 101 dX5_orderAt_99 rfl rfl (V.incN7 h 104 dX5_orderAt_101 rfl rfl (V.goto h 45 dX5_orderAt_104 rfl ?_))))
        first
        | exact ih (n + 1) _ (by omega) (stp0 ht (ifnb (by rw [nI_inj (by omega) (by omega) c67]; simp; done))) kk
        | exact ih (n + 1) _ (by omega) (stp0 ht (ifnb (by rw [← live_bt s (show n < 12 by omega), (show Bt (live (vP s)) n = false from c76)]; simp; done))) kk
        | exact ih (n + 1) _ (by omega) (stp0 ht (ifnb (by rw [← ahd_wav (old := M 8) (show n < 12 by omega) hk (by rw [← live_bt s (show n < 12 by omega)]; exact c76) htk, ← hM, (show ahd s (M' 8) n k ord (std (vP s) (mX M) 0) = false from c90)]; simp; done))) kk
        | exact ih (n + 1) _ (by omega) (stp0 ht (ifb (by rw [← ahd_wav (old := M 8) (show n < 12 by omega) hk (by rw [← live_bt s (show n < 12 by omega)]; exact c76) htk, ← hM, (show ahd s (M' 8) n k ord (std (vP s) (mX M) 0) = true from c90), ← live_bt s (show n < 12 by omega), c76]; simp; intro q; exact c67 (by rw [q])))) kk
      · refine V.iload3 h 71 dX5_orderAt_70 rfl (V.iload7 h 73 dX5_orderAt_71 rfl (V.callSf (As := [.int _, .int _]) (st := [.int _]) h 76 dX5_orderAt_73 rfl k663 k661 k662 k6 hd_X5_has ⟨(Nat.le_of_ble_eq_true rfl), (Nat.le_of_ble_eq_true rfl)⟩ (Nat.le_of_ble_eq_true rfl) ⟨Nat.zero_le _, Nat.zero_le _⟩ (c_X5_has (by omega)) rfl ?_))
        refine V.bif_eq h 97 79 dX5_orderAt_76 rfl rfl (fun c76 => ?_) (fun c76 => ?_)
        · refine V.iconst h 98 dX5_orderAt_97 rfl ic1_0 (V.iadd h 99 dX5_orderAt_98 rfl (V.istore6 h 101 dX5_orderAt_99 rfl rfl (V.incN7 h 104 dX5_orderAt_101 rfl rfl (V.goto h 45 dX5_orderAt_104 rfl ?_))))
          first
          | exact ih (n + 1) _ (by omega) (stp0 ht (ifnb (by rw [nI_inj (by omega) (by omega) c67]; simp; done))) kk
          | exact ih (n + 1) _ (by omega) (stp0 ht (ifnb (by rw [← live_bt s (show n < 12 by omega), (show Bt (live (vP s)) n = false from c76)]; simp; done))) kk
          | exact ih (n + 1) _ (by omega) (stp0 ht (ifnb (by rw [← ahd_wav (old := M 8) (show n < 12 by omega) hk (by rw [← live_bt s (show n < 12 by omega)]; exact c76) htk, ← hM, (show ahd s (M' 8) n k ord (std (vP s) (mX M) 0) = false from c90)]; simp; done))) kk
          | exact ih (n + 1) _ (by omega) (stp0 ht (ifb (by rw [← ahd_wav (old := M 8) (show n < 12 by omega) hk (by rw [← live_bt s (show n < 12 by omega)]; exact c76) htk, ← hM, (show ahd s (M' 8) n k ord (std (vP s) (mX M) 0) = true from c90), ← live_bt s (show n < 12 by omega), c76]; simp; intro q; exact c67 (by rw [q])))) kk
        · refine V.aload0 h 80 dX5_orderAt_79 rfl (V.iload7 h 82 dX5_orderAt_80 rfl (V.iload5 h 84 dX5_orderAt_82 rfl (V.iload1 h 85 dX5_orderAt_84 rfl (V.iload4 h 87 dX5_orderAt_85 rfl (V.callVf (As := [.int _, .int _, .int _, .int _]) (st := [.int _]) h 90 dX5_orderAt_87 rfl k782 k779 k781 ks87 k6 hd_X5_isAhead ⟨(Nat.le_of_ble_eq_true rfl), (Nat.le_of_ble_eq_true rfl)⟩ (Nat.le_of_ble_eq_true rfl) zo rfl rfl ⟨Nat.zero_le _, Nat.zero_le _⟩ (c_X5_isAhead (by omega) (by omega)) rfl ?_)))))
          refine V.bif_eq h 97 93 dX5_orderAt_90 rfl rfl (fun c90 => ?_) (fun c90 => ?_)
          · refine V.iconst h 98 dX5_orderAt_97 rfl ic1_0 (V.iadd h 99 dX5_orderAt_98 rfl (V.istore6 h 101 dX5_orderAt_99 rfl rfl (V.incN7 h 104 dX5_orderAt_101 rfl rfl (V.goto h 45 dX5_orderAt_104 rfl ?_))))
            first
            | exact ih (n + 1) _ (by omega) (stp0 ht (ifnb (by rw [nI_inj (by omega) (by omega) c67]; simp; done))) kk
            | exact ih (n + 1) _ (by omega) (stp0 ht (ifnb (by rw [← live_bt s (show n < 12 by omega), (show Bt (live (vP s)) n = false from c76)]; simp; done))) kk
            | exact ih (n + 1) _ (by omega) (stp0 ht (ifnb (by rw [← ahd_wav (old := M 8) (show n < 12 by omega) hk (by rw [← live_bt s (show n < 12 by omega)]; exact c76) htk, ← hM, (show ahd s (M' 8) n k ord (std (vP s) (mX M) 0) = false from c90)]; simp; done))) kk
            | exact ih (n + 1) _ (by omega) (stp0 ht (ifb (by rw [← ahd_wav (old := M 8) (show n < 12 by omega) hk (by rw [← live_bt s (show n < 12 by omega)]; exact c76) htk, ← hM, (show ahd s (M' 8) n k ord (std (vP s) (mX M) 0) = true from c90), ← live_bt s (show n < 12 by omega), c76]; simp; intro q; exact c67 (by rw [q])))) kk
          · refine V.iconst h 94 dX5_orderAt_93 rfl ic1_1 (V.goto h 98 dX5_orderAt_94 rfl (V.iadd h 99 dX5_orderAt_98 rfl (V.istore6 h 101 dX5_orderAt_99 rfl rfl (V.incN7 h 104 dX5_orderAt_101 rfl rfl (V.goto h 45 dX5_orderAt_104 rfl ?_)))))
            first
            | exact ih (n + 1) _ (by omega) (stp0 ht (ifnb (by rw [nI_inj (by omega) (by omega) c67]; simp; done))) kk
            | exact ih (n + 1) _ (by omega) (stp0 ht (ifnb (by rw [← live_bt s (show n < 12 by omega), (show Bt (live (vP s)) n = false from c76)]; simp; done))) kk
            | exact ih (n + 1) _ (by omega) (stp0 ht (ifnb (by rw [← ahd_wav (old := M 8) (show n < 12 by omega) hk (by rw [← live_bt s (show n < 12 by omega)]; exact c76) htk, ← hM, (show ahd s (M' 8) n k ord (std (vP s) (mX M) 0) = false from c90)]; simp; done))) kk
            | exact ih (n + 1) _ (by omega) (stp0 ht (ifb (by rw [← ahd_wav (old := M 8) (show n < 12 by omega) hk (by rw [← live_bt s (show n < 12 by omega)]; exact c76) htk, ← hM, (show ahd s (M' 8) n k ord (std (vP s) (mX M) 0) = true from c90), ← live_bt s (show n < 12 by omega), c76]; simp; intro q; exact c67 (by rw [q])))) kk
  have L : ∀ (M' : Pl) (d n : Nat) (u6 u7 : Option Value), M' 8 = wvP (vP s) (mX M) 0 (M 8) → Sc M M' → n + d = 12 → (rng 0 ord 2 && !decide (pl < 0)) = true → qOr s (mX M) ord pl = (if lf (ord1 s (mX M) ord pl) n d = -1 then -4 else lf (ord1 s (mX M) ord pl) n d) →
      V X 0 0 32 [some (.ref b), some (.int ord), some (.int pl), some (.int (live (vP s))), some (.int (std (vP s) (mX M) 0)), some (.int (nI n)), u6, u7] [] (mz w b M' s) := by
    intro M' d
    induction d with
    | zero =>
      intro n u6 u7 hM hS hnd hr hq
      obtain rfl : n = 12 := by omega
      refine V.iload5 h 34 dX5_orderAt_32 rfl (V.bipush h 36 dX5_orderAt_34 rfl ic2_12 ?_)
      refine V.icmp_ge h 131 39 dX5_orderAt_36 rfl rfl (fun _ => ?_) (fun q => absurd (lp_out (n := 12)) q)
      refine V.bipush h 133 dX5_orderAt_131 rfl ic2_m4 ?_
      refine V.iret h hR dX5_orderAt_133 ?_
      exact RM_of (by rw [hq]; rfl) hS
    | succ d ih =>
      intro n u6 u7 hM hS hnd hr hq
      rw [lf] at hq
      by_cases htn : sThere s n = true
      · refine V.iload5 h 34 dX5_orderAt_32 rfl (V.bipush h 36 dX5_orderAt_34 rfl ic2_12 ?_)
        refine V.icmp_ge h 131 39 dX5_orderAt_36 rfl rfl (fun q => absurd q (lp_in (n := 12) (by omega))) (fun _ => ?_)
        refine V.iconst h 40 dX5_orderAt_39 rfl ic1_0 (V.istore6 h 42 dX5_orderAt_40 rfl rfl (V.iconst h 43 dX5_orderAt_42 rfl ic1_0 (V.istore7 h 45 dX5_orderAt_43 rfl rfl ?_)))
        refine L2 M' n hM (by omega) htn 12 0 0 rfl rfl ?_
        refine V.iload3 h 108 dX5_orderAt_107 rfl (V.iload5 h 110 dX5_orderAt_108 rfl (V.callSf (As := [.int _, .int _]) (st := []) h 113 dX5_orderAt_110 rfl k663 k661 k662 k6 hd_X5_has ⟨(Nat.le_of_ble_eq_true rfl), (Nat.le_of_ble_eq_true rfl)⟩ (Nat.le_of_ble_eq_true rfl) ⟨Nat.zero_le _, Nat.zero_le _⟩ (c_X5_has (by omega)) rfl ?_))
        refine V.bif_eq h 125 116 dX5_orderAt_113 rfl rfl (fun q => absurd ((Eq.symm (show Bt (live (vP s)) n = true by rw [live_bt s (by omega)]; exact htn)).trans q) (by decide)) (fun _ => ?_)
        refine V.iload6 h 118 dX5_orderAt_116 rfl (V.iload2 h 119 dX5_orderAt_118 rfl ?_)
        refine V.icmp_ne h 125 122 dX5_orderAt_119 rfl rfl (fun c119 => ?_) (fun c119 => ?_)
        · refine V.incN5 h 128 dX5_orderAt_125 rfl rfl (V.goto h 32 dX5_orderAt_128 rfl ?_)
          refine ih (n + 1) _ _ hM hS (by omega) hr ?_
          rw [if_neg (show ¬ ord1 s (mX M) ord pl n = true by unfold ord1; rw [decide_eq_false (by simpa using c119)]; simp)] at hq
          exact hq
        · refine V.iload5 h 124 dX5_orderAt_122 rfl ?_
          refine V.iret h hR dX5_orderAt_124 ?_
          refine RM_of ?_ hS
          rw [hq, if_pos (show ord1 s (mX M) ord pl n = true by unfold ord1; rw [htn, decide_eq_true (by simpa using c119)]; rfl), if_neg (by
            intro q
            exact absurd (show nI n < 0 by rw [q]; decide) (nI_pos (by omega)))]
      · have hl : Bt (live (vP s)) n = false := by rw [live_bt s (by omega)]; simpa using htn
        refine V.iload5 h 34 dX5_orderAt_32 rfl (V.bipush h 36 dX5_orderAt_34 rfl ic2_12 ?_)
        refine V.icmp_ge h 131 39 dX5_orderAt_36 rfl rfl (fun q => absurd q (lp_in (n := 12) (by omega))) (fun _ => ?_)
        refine V.iconst h 40 dX5_orderAt_39 rfl ic1_0 (V.istore6 h 42 dX5_orderAt_40 rfl rfl (V.iconst h 43 dX5_orderAt_42 rfl ic1_0 (V.istore7 h 45 dX5_orderAt_43 rfl rfl ?_)))
        skip
        refine V.iload7 h 47 dX5_orderAt_45 rfl (V.bipush h 49 dX5_orderAt_47 rfl ic2_12 ?_)
        refine V.icmp_ge h 107 52 dX5_orderAt_49 rfl rfl (fun q => absurd q (by intro q; exact absurd q (by decide))) (fun _ => ?_)
        refine V.iload3 h 53 dX5_orderAt_52 rfl (V.iload5 h 55 dX5_orderAt_53 rfl (V.callSf (As := [.int _, .int _]) (st := []) h 58 dX5_orderAt_55 rfl k663 k661 k662 k6 hd_X5_has ⟨(Nat.le_of_ble_eq_true rfl), (Nat.le_of_ble_eq_true rfl)⟩ (Nat.le_of_ble_eq_true rfl) ⟨Nat.zero_le _, Nat.zero_le _⟩ (c_X5_has (by omega)) rfl ?_))
        refine V.bif_eq h 107 61 dX5_orderAt_58 rfl rfl (fun _ => ?_) (fun q => absurd ((Eq.symm hl).trans q) (by decide))
        refine V.iload3 h 108 dX5_orderAt_107 rfl (V.iload5 h 110 dX5_orderAt_108 rfl (V.callSf (As := [.int _, .int _]) (st := []) h 113 dX5_orderAt_110 rfl k663 k661 k662 k6 hd_X5_has ⟨(Nat.le_of_ble_eq_true rfl), (Nat.le_of_ble_eq_true rfl)⟩ (Nat.le_of_ble_eq_true rfl) ⟨Nat.zero_le _, Nat.zero_le _⟩ (c_X5_has (by omega)) rfl ?_))
        refine V.bif_eq h 125 116 dX5_orderAt_113 rfl rfl (fun _ => ?_) (fun q => absurd ((Eq.symm hl).trans q) (by decide))
        refine V.incN5 h 128 dX5_orderAt_125 rfl rfl (V.goto h 32 dX5_orderAt_128 rfl ?_)
        refine ih (n + 1) _ _ hM hS (by omega) hr ?_
        rw [if_neg (show ¬ ord1 s (mX M) ord pl n = true by unfold ord1; rw [show sThere s n = false by simpa using htn]; simp)] at hq
        exact hq
  refine V.iload1 h 1 dX5_orderAt_0 rfl (V.iconst h 2 dX5_orderAt_1 rfl ic1_0 (V.iconst h 3 dX5_orderAt_2 rfl ic1_2 (V.callSf (As := [.int _, .int _, .int _]) (st := []) h 6 dX5_orderAt_3 rfl k604 k602 k603 k6 hd_X5_in ⟨(Nat.le_of_ble_eq_true rfl), (Nat.le_of_ble_eq_true rfl)⟩ (Nat.le_of_ble_eq_true rfl) ⟨Nat.zero_le _, Nat.zero_le _⟩ c_X5_in rfl ?_)))
  refine V.bif_eq h 13 9 dX5_orderAt_6 rfl rfl (fun c6 => ?_) (fun c6 => ?_)
  · refine V.iconst h 14 dX5_orderAt_13 rfl ic1_m1 ?_
    refine V.iret h hR dX5_orderAt_14 ?_
    first | exact RM_of (by unfold qOr rng; rw [c6]; rfl) Sc.rf | exact RM_of (by unfold qOr; rw [decide_eq_true (nle0 c10), Bool.not_true, Bool.and_false]; rfl) Sc.rf
  · refine V.iload2 h 10 dX5_orderAt_9 rfl ?_
    refine V.if_ge h 15 13 dX5_orderAt_10 rfl rfl (fun c10 => ?_) (fun c10 => ?_)
    · refine V.aload0 h 16 dX5_orderAt_15 rfl (V.iconst h 17 dX5_orderAt_16 rfl ic1_1 (V.iconst h 18 dX5_orderAt_17 rfl ic1_1 (V.callVf (As := [.int _, .int _]) (st := []) h 21 dX5_orderAt_18 rfl k656 k653 k655 ks65 k6 hd_X5_pledges ⟨(Nat.le_of_ble_eq_true rfl), (Nat.le_of_ble_eq_true rfl)⟩ (Nat.le_of_ble_eq_true rfl) zo rfl rfl ⟨Nat.zero_le _, Nat.zero_le _⟩ c_tipAll rfl (V.istore3 h 22 dX5_orderAt_21 rfl rfl (V.aload0 h 23 dX5_orderAt_22 rfl (V.iconst h 24 dX5_orderAt_23 rfl ic1_0 (V.callVf (As := [.int _]) (st := []) h 27 dX5_orderAt_24 rfl k683 k680 k682 ks70 k6 hd_X5_stands ⟨(Nat.le_of_ble_eq_true rfl), (Nat.le_of_ble_eq_true rfl)⟩ (Nat.le_of_ble_eq_true rfl) zo rfl rfl ⟨Nat.zero_le _, Nat.zero_le _⟩ (c_stands hok) rfl ?_)))))))
      refine V.istore4 h 29 dX5_orderAt_27 rfl rfl (V.iconst h 30 dX5_orderAt_29 rfl ic1_0 (V.istore5 h 32 dX5_orderAt_30 rfl rfl ?_))
      have hr : (rng 0 ord 2 && !decide (pl < 0)) = true := by rw [show rng 0 ord 2 = true from c6, decide_eq_false (le_n c10)]; rfl
      exact L _ 12 0 _ _ rfl Sc.of_sc rfl hr (by unfold qOr; rw [if_pos hr])
    · refine V.iconst h 14 dX5_orderAt_13 rfl ic1_m1 ?_
      refine V.iret h hR dX5_orderAt_14 ?_
      first | exact RM_of (by unfold qOr rng; rw [c6]; rfl) Sc.rf | exact RM_of (by unfold qOr; rw [decide_eq_true (nle0 c10), Bool.not_true, Bool.and_false]; rfl) Sc.rf
theorem lo12_nn {S : Int32} (h : lo12 S) : (0 : Int32) ≤ S := by
  have h31 : S.toBitVec.msb = false := by
    rw [BitVec.msb_eq_getLsbD_last]
    exact h 31 (by decide)
  rw [Int32.le_iff_toInt_le]
  show _ ≤ S.toBitVec.toInt
  rw [BitVec.toInt_eq_msb_cond, h31]
  simp
theorem c_setsThatHold {M : Pl} {b N : Nat} {s : Nat → Int32} {w : Wd} (hN : N = 4096) (hok : sOK s) : K_X5_setsThatHold [.ref b] (mz w b M s) (RI (sm (fun n => if (decide (nI n &&& (vP s 6 0 ^^^ (-1)) = 0) && decide (fal (vP s) (mX M) (nI n) (vP s 7 0) = 0)) = true then 1 else 0) N) (mz w b M s)) := by
  refine Con.mk [some (.ref b), none, none, none, none] (by decide) rfl rfl (Nat.le_of_ble_eq_true rfl) (fun X h hR hnm => ?_)
  have L : ∀ (d n : Nat) (t : Int32), n + d = N → t = sm (fun n => if (decide (nI n &&& (vP s 6 0 ^^^ (-1)) = 0) && decide (fal (vP s) (mX M) (nI n) (vP s 7 0) = 0)) = true then 1 else 0) n →
      V X 0 0 15 [some (.ref b), some (.int (vP s 6 0)), some (.int (vP s 7 0)), some (.int t), some (.int (nI n))] [] (mz w b M s) := by
    intro d
    induction d with
    | zero =>
      intro n t hnd ht
      obtain rfl : n = N := by omega
      have hge : (4096 : Int32) ≤ nI n := by rw [hN]; exact lp_out (n := 4096)
      refine V.iload4 h 17 dX5_setsThatHold_15 rfl (V.sipush h 20 dX5_setsThatHold_17 rfl ic3_4096 ?_)
      refine V.icmp_ge h 56 23 dX5_setsThatHold_20 rfl rfl (fun _ => ?_) (fun q => absurd hge q)
      refine V.iload3 h 57 dX5_setsThatHold_56 rfl ?_
      refine V.iret h hR dX5_setsThatHold_57 ?_
      exact RI_r ht
    | succ d ih =>
      intro n t hnd ht
      have hlt : ¬ (4096 : Int32) ≤ nI n := lp_in (n := 4096) (by omega)
      refine V.iload4 h 17 dX5_setsThatHold_15 rfl (V.sipush h 20 dX5_setsThatHold_17 rfl ic3_4096 ?_)
      refine V.icmp_ge h 56 23 dX5_setsThatHold_20 rfl rfl (fun q => absurd q hlt) (fun _ => ?_)
      refine V.iload3 h 24 dX5_setsThatHold_23 rfl (V.iload4 h 26 dX5_setsThatHold_24 rfl (V.iload1 h 27 dX5_setsThatHold_26 rfl (V.iconst h 28 dX5_setsThatHold_27 rfl ic1_m1 (V.ixor h 29 dX5_setsThatHold_28 rfl (V.iand h 30 dX5_setsThatHold_29 rfl ?_)))))
      refine V.if_ne h 47 33 dX5_setsThatHold_30 rfl rfl (fun c30 => ?_) (fun c30 => ?_)
      · refine V.iconst h 48 dX5_setsThatHold_47 rfl ic1_0 (V.iadd h 49 dX5_setsThatHold_48 rfl (V.istore3 h 50 dX5_setsThatHold_49 rfl rfl (V.incN4 h 53 dX5_setsThatHold_50 rfl rfl (V.goto h 15 dX5_setsThatHold_53 rfl ?_))))
        first
        | exact ih (n + 1) _ (by omega) (stp0 ht (ifnb (by rw [decide_eq_false (show ¬ nI n &&& (vP s 6 0 ^^^ (-1)) = 0 from c30)]; rfl)))
        | exact ih (n + 1) _ (by omega) (stp0 ht (ifnb (by rw [decide_eq_false (show ¬ fal (vP s) (mX M) (nI n) (vP s 7 0) = 0 from c40)]; simp; done)))
        | exact ih (n + 1) _ (by omega) (stp0 ht (ifb (by rw [decide_eq_true (show nI n &&& (vP s 6 0 ^^^ (-1)) = 0 by simpa using c30), decide_eq_true (show fal (vP s) (mX M) (nI n) (vP s 7 0) = 0 by simpa using c40)]; rfl)))
      · have hokS : ∀ k, k < 12 → Bt (nI n) k = true → kOK (vP s) k := fun k hk h => hok k hk (by
          have h1 : Bt (nI n &&& (vP s 6 0 ^^^ (-1))) k = false := by rw [show nI n &&& (vP s 6 0 ^^^ (-1)) = 0 by simpa using c30, bt_0]
          rw [bt_and, bt_not _ (by omega), h] at h1
          simpa using h1)
        refine V.aload0 h 34 dX5_setsThatHold_33 rfl (V.iload4 h 36 dX5_setsThatHold_34 rfl (V.iload2 h 37 dX5_setsThatHold_36 rfl (V.callVf (As := [.int _, .int _]) (st := [.int _]) h 40 dX5_setsThatHold_37 rfl k695 k692 k694 ks73 k6 hd_X5_fallingOf ⟨(Nat.le_of_ble_eq_true rfl), (Nat.le_of_ble_eq_true rfl)⟩ (Nat.le_of_ble_eq_true rfl) zo rfl rfl ⟨Nat.zero_le _, Nat.zero_le _⟩ (c_fallingOf hokS) rfl ?_)))
        refine V.if_ne h 47 43 dX5_setsThatHold_40 rfl rfl (fun c40 => ?_) (fun c40 => ?_)
        · refine V.iconst h 48 dX5_setsThatHold_47 rfl ic1_0 (V.iadd h 49 dX5_setsThatHold_48 rfl (V.istore3 h 50 dX5_setsThatHold_49 rfl rfl (V.incN4 h 53 dX5_setsThatHold_50 rfl rfl (V.goto h 15 dX5_setsThatHold_53 rfl ?_))))
          first
          | exact ih (n + 1) _ (by omega) (stp0 ht (ifnb (by rw [decide_eq_false (show ¬ nI n &&& (vP s 6 0 ^^^ (-1)) = 0 from c30)]; rfl)))
          | exact ih (n + 1) _ (by omega) (stp0 ht (ifnb (by rw [decide_eq_false (show ¬ fal (vP s) (mX M) (nI n) (vP s 7 0) = 0 from c40)]; simp; done)))
          | exact ih (n + 1) _ (by omega) (stp0 ht (ifb (by rw [decide_eq_true (show nI n &&& (vP s 6 0 ^^^ (-1)) = 0 by simpa using c30), decide_eq_true (show fal (vP s) (mX M) (nI n) (vP s 7 0) = 0 by simpa using c40)]; rfl)))
        · refine V.iconst h 44 dX5_setsThatHold_43 rfl ic1_1 (V.goto h 48 dX5_setsThatHold_44 rfl (V.iadd h 49 dX5_setsThatHold_48 rfl (V.istore3 h 50 dX5_setsThatHold_49 rfl rfl (V.incN4 h 53 dX5_setsThatHold_50 rfl rfl (V.goto h 15 dX5_setsThatHold_53 rfl ?_)))))
          first
          | exact ih (n + 1) _ (by omega) (stp0 ht (ifnb (by rw [decide_eq_false (show ¬ nI n &&& (vP s 6 0 ^^^ (-1)) = 0 from c30)]; rfl)))
          | exact ih (n + 1) _ (by omega) (stp0 ht (ifnb (by rw [decide_eq_false (show ¬ fal (vP s) (mX M) (nI n) (vP s 7 0) = 0 from c40)]; simp; done)))
          | exact ih (n + 1) _ (by omega) (stp0 ht (ifb (by rw [decide_eq_true (show nI n &&& (vP s 6 0 ^^^ (-1)) = 0 by simpa using c30), decide_eq_true (show fal (vP s) (mX M) (nI n) (vP s 7 0) = 0 by simpa using c40)]; rfl)))
  refine V.aload0 h 1 dX5_setsThatHold_0 rfl (V.callVf (As := []) (st := []) h 4 dX5_setsThatHold_1 rfl k652 k649 k651 ks64 k6 hd_X5_open ⟨(Nat.le_of_ble_eq_true rfl), (Nat.le_of_ble_eq_true rfl)⟩ (Nat.le_of_ble_eq_true rfl) zo rfl rfl ⟨Nat.zero_le _, Nat.zero_le _⟩ c_open rfl (V.istore1 h 5 dX5_setsThatHold_4 rfl rfl (V.aload0 h 6 dX5_setsThatHold_5 rfl (V.callVf (As := []) (st := []) h 9 dX5_setsThatHold_6 rfl k687 k684 k686 ks71 k6 hd_X5_called ⟨(Nat.le_of_ble_eq_true rfl), (Nat.le_of_ble_eq_true rfl)⟩ (Nat.le_of_ble_eq_true rfl) zo rfl rfl ⟨Nat.zero_le _, Nat.zero_le _⟩ c_called rfl (V.istore2 h 10 dX5_setsThatHold_9 rfl rfl (V.iconst h 11 dX5_setsThatHold_10 rfl ic1_0 (V.istore3 h 12 dX5_setsThatHold_11 rfl rfl ?_)))))))
  refine V.iconst h 13 dX5_setsThatHold_12 rfl ic1_0 (V.istore4 h 15 dX5_setsThatHold_13 rfl rfl ?_)
  exact L N 0 0 (by omega) rfl
theorem std_lo {s : Nat → Int32} {x : Ex} {g : Int32} : lo12 (std (vP s) x g) := lo12_or (gs_lo (lo12_and _ (open_lo s)) 12) (called_lo s)
theorem c_wavesNow {M : Pl} {b : Nat} {s : Nat → Int32} {w : Wd} (hok : sOK s) : K_X5_wavesNow [.ref b] (mz w b M s) (RM (nI (nwP (vP s) (mX M) 0), s) w b M) := by
  refine Con.mk [some (.ref b), none] (by decide) rfl rfl (Nat.le_of_ble_eq_true rfl) (fun X h hR hnm => ?_)
  refine V.aload0 h 1 dX5_wavesNow_0 rfl (V.iconst h 2 dX5_wavesNow_1 rfl ic1_0 (V.callVf (As := [.int _]) (st := []) h 5 dX5_wavesNow_2 rfl k683 k680 k682 ks70 k6 hd_X5_stands ⟨(Nat.le_of_ble_eq_true rfl), (Nat.le_of_ble_eq_true rfl)⟩ (Nat.le_of_ble_eq_true rfl) zo rfl rfl ⟨Nat.zero_le _, Nat.zero_le _⟩ (c_stands hok) rfl (V.istore1 h 6 dX5_wavesNow_5 rfl rfl (V.iload1 h 7 dX5_wavesNow_6 rfl ?_))))
  refine V.if_ge h 14 10 dX5_wavesNow_7 rfl rfl (fun _ => ?_) (fun q => absurd (lo12_nn std_lo) q)
  refine V.aload0 h 15 dX5_wavesNow_14 rfl (V.gX5 h 9 18 dX5_wavesNow_15 rfl rfl k553 zo rfl ?_)
  refine V.iret h hR dX5_wavesNow_18 ?_
  exact RM_of rfl Sc.of_sc
theorem c_goalsNow {M : Pl} {b np : Nat} {s : Nat → Int32} {w : Wd} (hok : sOK s) (hn : s 0 = nI np) (h4 : np ≤ 4) : K_X5_goalsNow [.ref b] (mz w b M s) (RM (sm (fun j => if hasG (vP s) (mX M) (std (vP s) (mX M) 0) (nI j) = true then 1 else 0) np, s) w b M) := by
  refine Con.mk [some (.ref b), none, none, none] (by decide) rfl rfl (Nat.le_of_ble_eq_true rfl) (fun X h hR hnm => ?_)
  have L : ∀ (M' : Pl) (d n : Nat) (t : Int32), Sc M M' → n + d = np → t = sm (fun j => if hasG (vP s) (mX M) (std (vP s) (mX M) 0) (nI j) = true then 1 else 0) n →
      V X 0 0 10 [some (.ref b), some (.int (std (vP s) (mX M) 0)), some (.int t), some (.int (nI n))] [] (mz w b M' s) := by
    intro M' d
    induction d with
    | zero =>
      intro n t hS hnd ht
      obtain rfl : n = np := by omega
      refine V.iload3 h 11 dX5_goalsNow_10 rfl (V.aload0 h 12 dX5_goalsNow_11 rfl (V.gX5 h 0 15 dX5_goalsNow_12 rfl rfl k544 zo rfl (V.iconst h 16 dX5_goalsNow_15 rfl ic1_0 (V.ialdN (i := 0) h 17 dX5_goalsNow_16 rfl za1 (by omega) (by decide) ?_))))
      refine V.icmp_ge h 43 20 dX5_goalsNow_17 rfl rfl (fun _ => ?_) (fun q => absurd (show s 0 ≤ nI n by rw [hn]; exact lp_out) q)
      refine V.iload2 h 44 dX5_goalsNow_43 rfl ?_
      refine V.iret h hR dX5_goalsNow_44 ?_
      exact RM_of (by rw [ht]) hS
    | succ d ih =>
      intro n t hS hnd ht
      refine V.iload3 h 11 dX5_goalsNow_10 rfl (V.aload0 h 12 dX5_goalsNow_11 rfl (V.gX5 h 0 15 dX5_goalsNow_12 rfl rfl k544 zo rfl (V.iconst h 16 dX5_goalsNow_15 rfl ic1_0 (V.ialdN (i := 0) h 17 dX5_goalsNow_16 rfl za1 (by omega) (by decide) ?_))))
      refine V.icmp_ge h 43 20 dX5_goalsNow_17 rfl rfl (fun q => absurd q (show ¬ s 0 ≤ nI n by rw [hn]; exact lp_in (by omega) (by omega))) (fun _ => ?_)
      refine V.iload2 h 21 dX5_goalsNow_20 rfl (V.aload0 h 22 dX5_goalsNow_21 rfl (V.iload1 h 23 dX5_goalsNow_22 rfl (V.iload3 h 24 dX5_goalsNow_23 rfl (V.callVf (As := [.int _, .int _]) (st := [.int _]) h 27 dX5_goalsNow_24 rfl k731 k728 k730 ks81 k6 hd_X5_hasGoal ⟨(Nat.le_of_ble_eq_true rfl), (Nat.le_of_ble_eq_true rfl)⟩ (Nat.le_of_ble_eq_true rfl) zo rfl rfl ⟨Nat.zero_le _, Nat.zero_le _⟩ (c_hasGoal (by omega)) rfl ?_))))
      refine V.bif_eq h 34 30 dX5_goalsNow_27 rfl rfl (fun c27 => ?_) (fun c27 => ?_)
      · refine V.iconst h 35 dX5_goalsNow_34 rfl ic1_0 (V.iadd h 36 dX5_goalsNow_35 rfl (V.istore2 h 37 dX5_goalsNow_36 rfl rfl (V.incN3 h 40 dX5_goalsNow_37 rfl rfl (V.goto h 10 dX5_goalsNow_40 rfl ?_))))
        rw [Sc.ex hS] at c27
        first
        | exact ih (n + 1) _ hS (by omega) (stp0 ht (ifb c27))
        | exact ih (n + 1) _ hS (by omega) (stp0 ht (ifnb c27))
      · refine V.iconst h 31 dX5_goalsNow_30 rfl ic1_1 (V.goto h 35 dX5_goalsNow_31 rfl (V.iadd h 36 dX5_goalsNow_35 rfl (V.istore2 h 37 dX5_goalsNow_36 rfl rfl (V.incN3 h 40 dX5_goalsNow_37 rfl rfl (V.goto h 10 dX5_goalsNow_40 rfl ?_)))))
        rw [Sc.ex hS] at c27
        first
        | exact ih (n + 1) _ hS (by omega) (stp0 ht (ifb c27))
        | exact ih (n + 1) _ hS (by omega) (stp0 ht (ifnb c27))
  refine V.aload0 h 1 dX5_goalsNow_0 rfl (V.iconst h 2 dX5_goalsNow_1 rfl ic1_0 (V.callVf (As := [.int _]) (st := []) h 5 dX5_goalsNow_2 rfl k683 k680 k682 ks70 k6 hd_X5_stands ⟨(Nat.le_of_ble_eq_true rfl), (Nat.le_of_ble_eq_true rfl)⟩ (Nat.le_of_ble_eq_true rfl) zo rfl rfl ⟨Nat.zero_le _, Nat.zero_le _⟩ (c_stands hok) rfl (V.istore1 h 6 dX5_goalsNow_5 rfl rfl (V.iconst h 7 dX5_goalsNow_6 rfl ic1_0 (V.istore2 h 8 dX5_goalsNow_7 rfl rfl (V.iconst h 9 dX5_goalsNow_8 rfl ic1_0 (V.istore3 h 10 dX5_goalsNow_9 rfl rfl ?_)))))))
  exact L _ np 0 0 Sc.of_sc (by omega) rfl
def qCt (s : Nat → Int32) (x : Ex) (N np : Nat) (st len what : Int32) : Int32 :=
  if what = 0 then s 0
  else if what = 1 then s 1
  else if what = 2 then cnt (live (vP s))
  else if what = 3 then cnt (vP s 6 0)
  else if what = 4 then std (vP s) x 0
  else if what = 5 then nI (nwP (vP s) x 0)
  else if what = 6 then sm (fun n => if (decide (nI n &&& (vP s 6 0 ^^^ (-1)) = 0) && decide (fal (vP s) x (nI n) (vP s 7 0) = 0)) = true then 1 else 0) N
  else if what = 7 then sm (fun j => if hasG (vP s) x (std (vP s) x 0) (nI j) = true then 1 else 0) np
  else if what = 8 then s 2
  else if what = 9 then s 3
  else if what = 10 then s 4
  else if what = 11 then st
  else if what = 12 then len
  else -1
theorem c_X5_count {M : Pl} {b N np : Nat} {s : Nat → Int32} {what : Int32} {w : Wd} (hN : N = 4096) (hok : sOK s) (hn : s 0 = nI np) (h4 : np ≤ 4) : K_X5_count [.ref b, .int what] (mz w b M s) (RM (qCt s (mX M) N np (M 3 0) (M 5 0) what, s) w b M) := by
  refine Con.mk [some (.ref b), some (.int what)] (by decide) rfl rfl (Nat.le_of_ble_eq_true rfl) (fun X h hR hnm => ?_)
  obtain ⟨q, hq⟩ : ∃ q, q = qCt s (mX M) N np (M 3 0) (M 5 0) what := ⟨_, rfl⟩
  rw [← hq] at hR
  unfold qCt at hq
  refine V.iload1 h 1 dX5_count_0 rfl ?_
  refine V.tcase (off := 67) h (0 : Int32) 68 dX5_count_1 (by decide) (by decide +kernel) rfl (fun c1_0 => ?_) (fun c1_0 => ?_)
  · refine V.aload0 h 69 dX5_count_68 rfl (V.gX5 h 0 72 dX5_count_69 rfl rfl k544 zo rfl (V.iconst h 73 dX5_count_72 rfl ic1_0 (V.ialdN (i := 0) h 74 dX5_count_73 rfl za1 (by omega) (by decide) ?_)))
    refine V.iret h hR dX5_count_74 ?_
    subst c1_0
    exact RM_of (by rw [hq]; rfl) Sc.rf
  refine V.tcase (off := 74) h (1 : Int32) 75 dX5_count_1 (by decide) (by decide +kernel) rfl (fun c1_1 => ?_) (fun c1_1 => ?_)
  · refine V.aload0 h 76 dX5_count_75 rfl (V.gX5 h 0 79 dX5_count_76 rfl rfl k544 zo rfl (V.iconst h 80 dX5_count_79 rfl ic1_1 (V.ialdN (i := 1) h 81 dX5_count_80 rfl za1 (by omega) (by decide) ?_)))
    refine V.iret h hR dX5_count_81 ?_
    subst c1_1
    exact RM_of (by rw [hq]; rfl) Sc.rf
  refine V.tcase (off := 81) h (2 : Int32) 82 dX5_count_1 (by decide) (by decide +kernel) rfl (fun c1_2 => ?_) (fun c1_2 => ?_)
  · refine V.aload0 h 83 dX5_count_82 rfl (V.iconst h 84 dX5_count_83 rfl ic1_1 (V.iconst h 85 dX5_count_84 rfl ic1_1 (V.callVf (As := [.int _, .int _]) (st := []) h 88 dX5_count_85 rfl k656 k653 k655 ks65 k6 hd_X5_pledges ⟨(Nat.le_of_ble_eq_true rfl), (Nat.le_of_ble_eq_true rfl)⟩ (Nat.le_of_ble_eq_true rfl) zo rfl rfl ⟨Nat.zero_le _, Nat.zero_le _⟩ c_tipAll rfl (V.callSf (As := [.int _]) (st := []) h 91 dX5_count_88 rfl k762 k760 k761 k6 hd_X5_many ⟨(Nat.le_of_ble_eq_true rfl), (Nat.le_of_ble_eq_true rfl)⟩ (Nat.le_of_ble_eq_true rfl) ⟨Nat.zero_le _, Nat.zero_le _⟩ c_X5_many rfl ?_))))
    refine V.iret h hR dX5_count_91 ?_
    subst c1_2
    exact RM_of (by rw [hq]; rfl) Sc.rf
  refine V.tcase (off := 91) h (3 : Int32) 92 dX5_count_1 (by decide) (by decide +kernel) rfl (fun c1_3 => ?_) (fun c1_3 => ?_)
  · refine V.aload0 h 93 dX5_count_92 rfl (V.callVf (As := []) (st := []) h 96 dX5_count_93 rfl k652 k649 k651 ks64 k6 hd_X5_open ⟨(Nat.le_of_ble_eq_true rfl), (Nat.le_of_ble_eq_true rfl)⟩ (Nat.le_of_ble_eq_true rfl) zo rfl rfl ⟨Nat.zero_le _, Nat.zero_le _⟩ c_open rfl (V.callSf (As := [.int _]) (st := []) h 99 dX5_count_96 rfl k762 k760 k761 k6 hd_X5_many ⟨(Nat.le_of_ble_eq_true rfl), (Nat.le_of_ble_eq_true rfl)⟩ (Nat.le_of_ble_eq_true rfl) ⟨Nat.zero_le _, Nat.zero_le _⟩ c_X5_many rfl ?_))
    refine V.iret h hR dX5_count_99 ?_
    subst c1_3
    exact RM_of (by rw [hq]; rfl) Sc.rf
  refine V.tcase (off := 99) h (4 : Int32) 100 dX5_count_1 (by decide) (by decide +kernel) rfl (fun c1_4 => ?_) (fun c1_4 => ?_)
  · refine V.aload0 h 101 dX5_count_100 rfl (V.iconst h 102 dX5_count_101 rfl ic1_0 (V.callVf (As := [.int _]) (st := []) h 105 dX5_count_102 rfl k683 k680 k682 ks70 k6 hd_X5_stands ⟨(Nat.le_of_ble_eq_true rfl), (Nat.le_of_ble_eq_true rfl)⟩ (Nat.le_of_ble_eq_true rfl) zo rfl rfl ⟨Nat.zero_le _, Nat.zero_le _⟩ (c_stands hok) rfl ?_))
    refine V.iret h hR dX5_count_105 ?_
    subst c1_4
    exact RM_of (by rw [hq]; rfl) Sc.of_sc
  refine V.tcase (off := 105) h (5 : Int32) 106 dX5_count_1 (by decide) (by decide +kernel) rfl (fun c1_5 => ?_) (fun c1_5 => ?_)
  · refine V.aload0 h 107 dX5_count_106 rfl (V.callVe (As := []) (st := []) h 110 dX5_count_107 rfl k790 k787 k789 ks88 k6 hd_X5_wavesNow ⟨(Nat.le_of_ble_eq_true rfl), (Nat.le_of_ble_eq_true rfl)⟩ (Nat.le_of_ble_eq_true rfl) zo rfl rfl ⟨Nat.zero_le _, Nat.zero_le _⟩ (c_wavesNow hok) rfl (fun w107 hw107 => ?_))
    obtain ⟨M1, hM1, rfl⟩ := hw107
    refine V.iret h hR dX5_count_110 ?_
    subst c1_5
    exact RM_of (by rw [hq]; rfl) hM1
  refine V.tcase (off := 110) h (6 : Int32) 111 dX5_count_1 (by decide) (by decide +kernel) rfl (fun c1_6 => ?_) (fun c1_6 => ?_)
  · refine V.aload0 h 112 dX5_count_111 rfl (V.callVf (As := []) (st := []) h 115 dX5_count_112 rfl k794 k791 k793 ks89 k6 hd_X5_setsThatHold ⟨(Nat.le_of_ble_eq_true rfl), (Nat.le_of_ble_eq_true rfl)⟩ (Nat.le_of_ble_eq_true rfl) zo rfl rfl ⟨Nat.zero_le _, Nat.zero_le _⟩ (c_setsThatHold hN hok) rfl ?_)
    refine V.iret h hR dX5_count_115 ?_
    subst c1_6
    exact RM_of (by rw [hq]; rfl) Sc.rf
  refine V.tcase (off := 115) h (7 : Int32) 116 dX5_count_1 (by decide) (by decide +kernel) rfl (fun c1_7 => ?_) (fun c1_7 => ?_)
  · refine V.aload0 h 117 dX5_count_116 rfl (V.callVe (As := []) (st := []) h 120 dX5_count_117 rfl k798 k795 k797 ks90 k6 hd_X5_goalsNow ⟨(Nat.le_of_ble_eq_true rfl), (Nat.le_of_ble_eq_true rfl)⟩ (Nat.le_of_ble_eq_true rfl) zo rfl rfl ⟨Nat.zero_le _, Nat.zero_le _⟩ (c_goalsNow hok hn h4) rfl (fun w117 hw117 => ?_))
    obtain ⟨M1, hM1, rfl⟩ := hw117
    refine V.iret h hR dX5_count_120 ?_
    subst c1_7
    exact RM_of (by rw [hq]; rfl) hM1
  refine V.tcase (off := 120) h (8 : Int32) 121 dX5_count_1 (by decide) (by decide +kernel) rfl (fun c1_8 => ?_) (fun c1_8 => ?_)
  · refine V.aload0 h 122 dX5_count_121 rfl (V.gX5 h 0 125 dX5_count_122 rfl rfl k544 zo rfl (V.iconst h 126 dX5_count_125 rfl ic1_2 (V.ialdN (i := 2) h 127 dX5_count_126 rfl za1 (by omega) (by decide) ?_)))
    refine V.iret h hR dX5_count_127 ?_
    subst c1_8
    exact RM_of (by rw [hq]; rfl) Sc.rf
  refine V.tcase (off := 127) h (9 : Int32) 128 dX5_count_1 (by decide) (by decide +kernel) rfl (fun c1_9 => ?_) (fun c1_9 => ?_)
  · refine V.aload0 h 129 dX5_count_128 rfl (V.gX5 h 0 132 dX5_count_129 rfl rfl k544 zo rfl (V.iconst h 133 dX5_count_132 rfl ic1_3 (V.ialdN (i := 3) h 134 dX5_count_133 rfl za1 (by omega) (by decide) ?_)))
    refine V.iret h hR dX5_count_134 ?_
    subst c1_9
    exact RM_of (by rw [hq]; rfl) Sc.rf
  refine V.tcase (off := 134) h (10 : Int32) 135 dX5_count_1 (by decide) (by decide +kernel) rfl (fun c1_10 => ?_) (fun c1_10 => ?_)
  · refine V.aload0 h 136 dX5_count_135 rfl (V.gX5 h 0 139 dX5_count_136 rfl rfl k544 zo rfl (V.iconst h 140 dX5_count_139 rfl ic1_4 (V.ialdN (i := 4) h 141 dX5_count_140 rfl za1 (by omega) (by decide) ?_)))
    refine V.iret h hR dX5_count_141 ?_
    subst c1_10
    exact RM_of (by rw [hq]; rfl) Sc.rf
  refine V.tcase (off := 141) h (11 : Int32) 142 dX5_count_1 (by decide) (by decide +kernel) rfl (fun c1_11 => ?_) (fun c1_11 => ?_)
  · refine V.aload0 h 143 dX5_count_142 rfl (V.gX5 h 3 146 dX5_count_143 rfl rfl k547 zo rfl ?_)
    refine V.iret h hR dX5_count_146 ?_
    subst c1_11
    exact RM_of (by rw [hq]; rfl) Sc.rf
  refine V.tcase (off := 146) h (12 : Int32) 147 dX5_count_1 (by decide) (by decide +kernel) rfl (fun c1_12 => ?_) (fun c1_12 => ?_)
  · refine V.aload0 h 148 dX5_count_147 rfl (V.gX5 h 5 151 dX5_count_148 rfl rfl k549 zo rfl ?_)
    refine V.iret h hR dX5_count_151 ?_
    subst c1_12
    exact RM_of (by rw [hq]; rfl) Sc.rf
  refine V.tdflt h 152 dX5_count_1 (by have e0 := lv_neT (a := 0) c1_0 (by decide); have e1 := lv_neT (a := 1) c1_1 (by decide); have e2 := lv_neT (a := 2) c1_2 (by decide); have e3 := lv_neT (a := 3) c1_3 (by decide); have e4 := lv_neT (a := 4) c1_4 (by decide); have e5 := lv_neT (a := 5) c1_5 (by decide); have e6 := lv_neT (a := 6) c1_6 (by decide); have e7 := lv_neT (a := 7) c1_7 (by decide); have e8 := lv_neT (a := 8) c1_8 (by decide); have e9 := lv_neT (a := 9) c1_9 (by decide); have e10 := lv_neT (a := 10) c1_10 (by decide); have e11 := lv_neT (a := 11) c1_11 (by decide); have e12 := lv_neT (a := 12) c1_12 (by decide); omega) rfl ?_
  refine V.iconst h 153 dX5_count_152 rfl ic1_m1 ?_
  refine V.iret h hR dX5_count_153 ?_
  exact RM_of (by rw [hq, if_neg c1_0, if_neg c1_1, if_neg c1_2, if_neg c1_3, if_neg c1_4, if_neg c1_5, if_neg c1_6, if_neg c1_7, if_neg c1_8, if_neg c1_9, if_neg c1_10, if_neg c1_11, if_neg c1_12]) Sc.rf
