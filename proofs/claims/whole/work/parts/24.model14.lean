/-! the reference: the calls of its face -/
def Sv (M M' : Pl) : Prop := ∀ g, g ≠ 1 → g ≠ 8 → g ≠ 9 → g ≠ 10 → g ≠ 11 → g ≠ 12 → g ≠ 13 → g ≠ 14 → M' g = M g
/-- what a change does to the reference's record, apart from the row of numbers -/
def Chg (M M' : Pl) (s : Nat → Int32) (k : Nat) (a : Int32) : Prop :=
  if a < 0 then Sv M M' else M' 2 = hP (hS (M 2) k) s (hN k) 125 ∧ M' 3 0 = nI (hN k + 1) ∧ ∀ g, g ≠ 1 → g ≠ 2 → g ≠ 3 → g ≠ 8 → g ≠ 9 → g ≠ 10 → g ≠ 11 → g ≠ 12 → g ≠ 13 → g ≠ 14 → M' g = M g
theorem hP_cp (P s g : Nat → Int32) (k : Nat) : hP P (cp 125 s g) k 125 = hP P s k 125 := by
  funext q; unfold hP
  by_cases h : 125 * k ≤ q ∧ q < 125 * k + 125
  · rw [if_pos h, if_pos h]; unfold cp; rw [if_pos (by omega)]
  · rw [if_neg h, if_neg h]
def RC (q : Int32 × (Nat → Int32)) (s : Nat → Int32) (k : Nat) (w : Wd) (b : Nat) (M : Pl) : Option Value → Wd → Prop := RE q.1 (fun u => ∃ M', Chg M M' s k q.1 ∧ u = mz w b M' q.2)
theorem RC_of {q : Int32 × (Nat → Int32)} {s : Nat → Int32} {k : Nat} {w : Wd} {b : Nat} {M M2 : Pl} (hM : Sv M M2) (h1 : M2 1 = cp 125 s (M 1)) :
    RC q s k w b M (some (.int q.1)) (if q.1 < 0 then mz w b M2 q.2 else mz w b (us (ua M2 2 (hP (hS (M2 2) k) (M2 1) (hN k) 125)) 3 (nI (hN k + 1))) q.2) := by
  refine ⟨rfl, ?_⟩
  by_cases h : q.1 < 0
  · rw [if_pos h]
    exact ⟨M2, by unfold Chg; rw [if_pos h]; exact hM, rfl⟩
  · rw [if_neg h]
    refine ⟨_, ?_, rfl⟩
    unfold Chg
    rw [if_neg h]
    refine ⟨?_, rfl, fun g a b c d e f g' h' i j => (if_neg c).trans ((if_neg b).trans (hM g a d e f g' h' i j))⟩
    show hP (hS (M2 2) k) (M2 1) (hN k) 125 = _
    rw [h1, hP_cp, hM 2 (by decide) (by decide) (by decide) (by decide) (by decide) (by decide) (by decide) (by decide)]
theorem Sv_b (M : Pl) (f : Nat → Int32) : Sv M (ua M 1 f) := fun g a _ _ _ _ _ _ _ => if_neg a
theorem Sv.sc {M M' M'' : Pl} (h : Sv M M') (h' : Sc M' M'') : Sv M M'' := fun g a b c d e f g' i => (h' g b c).trans (h g a b c d e f g' i)
theorem Sv.su {M M' M'' : Pl} (h : Sv M M') (h' : Su M' M'') : Sv M M'' := fun g a b c d e f g' i => (h' g b c d e f g' i).trans (h g a b c d e f g' i)
theorem c_X5_project {M : Pl} {b np k : Nat} {s : Nat → Int32} {g : Int32} {w : Wd} (hn : s 0 = nI np) (h4 : np ≤ 4) (h3 : M 3 0 = nI k) (h4s : k ≤ 4) : K_X5_project [.ref b, .int g] (mz w b M s) (RC (mAdd s g) s k w b M) := by
  refine Con.mk [some (.ref b), some (.int g)] (by decide) rfl rfl (Nat.le_of_ble_eq_true rfl) (fun X h hR hnm => ?_)
  refine V.aload0 h 1 dX5_project_0 rfl (V.callVfv (As := []) (st := []) h 4 dX5_project_1 rfl k597 k594 k596 ks53 k6 hd_X5_begins ⟨(Nat.le_of_ble_eq_true rfl), (Nat.le_of_ble_eq_true rfl)⟩ (Nat.le_of_ble_eq_true rfl) zo rfl rfl ⟨Nat.zero_le _, Nat.zero_le _⟩ c_X5_begins rfl (V.aload0 h 5 dX5_project_4 rfl (V.aload0 h 6 dX5_project_5 rfl (V.iload1 h 7 dX5_project_6 rfl (V.callVf (As := [.int _]) (st := [.ref _]) h 10 dX5_project_7 rfl k601 k598 k600 ks54 k6 hd_X5_adds ⟨(Nat.le_of_ble_eq_true rfl), (Nat.le_of_ble_eq_true rfl)⟩ (Nat.le_of_ble_eq_true rfl) zo rfl rfl ⟨Nat.zero_le _, Nat.zero_le _⟩ (c_X5_adds hn h4) rfl (V.callVf (As := [.int _]) (st := []) h 13 dX5_project_10 rfl k608 k605 k607 ks55 k6 hd_X5_acted ⟨(Nat.le_of_ble_eq_true rfl), (Nat.le_of_ble_eq_true rfl)⟩ (Nat.le_of_ble_eq_true rfl) zo rfl rfl ⟨Nat.zero_le _, Nat.zero_le _⟩ (c_X5_acted h3 h4s) rfl ?_))))))
  refine V.iret h hR dX5_project_13 ?_
  exact RC_of (Sv_b M _) rfl
theorem c_X5_person {M : Pl} {b nq k : Nat} {s : Nat → Int32} {g : Int32} {w : Wd} (hq : s 1 = nI nq) (h8 : nq ≤ 8) (h3 : M 3 0 = nI k) (h4s : k ≤ 4) : K_X5_person [.ref b, .int g] (mz w b M s) (RC (mCome s g) s k w b M) := by
  refine Con.mk [some (.ref b), some (.int g)] (by decide) rfl rfl (Nat.le_of_ble_eq_true rfl) (fun X h hR hnm => ?_)
  refine V.aload0 h 1 dX5_person_0 rfl (V.callVfv (As := []) (st := []) h 4 dX5_person_1 rfl k597 k594 k596 ks53 k6 hd_X5_begins ⟨(Nat.le_of_ble_eq_true rfl), (Nat.le_of_ble_eq_true rfl)⟩ (Nat.le_of_ble_eq_true rfl) zo rfl rfl ⟨Nat.zero_le _, Nat.zero_le _⟩ c_X5_begins rfl (V.aload0 h 5 dX5_person_4 rfl (V.aload0 h 6 dX5_person_5 rfl (V.iload1 h 7 dX5_person_6 rfl (V.callVf (As := [.int _]) (st := [.ref _]) h 10 dX5_person_7 rfl k616 k613 k615 ks56 k6 hd_X5_comes ⟨(Nat.le_of_ble_eq_true rfl), (Nat.le_of_ble_eq_true rfl)⟩ (Nat.le_of_ble_eq_true rfl) zo rfl rfl ⟨Nat.zero_le _, Nat.zero_le _⟩ (c_X5_comes hq h8) rfl (V.callVf (As := [.int _]) (st := []) h 13 dX5_person_10 rfl k608 k605 k607 ks55 k6 hd_X5_acted ⟨(Nat.le_of_ble_eq_true rfl), (Nat.le_of_ble_eq_true rfl)⟩ (Nat.le_of_ble_eq_true rfl) zo rfl rfl ⟨Nat.zero_le _, Nat.zero_le _⟩ (c_X5_acted h3 h4s) rfl ?_))))))
  refine V.iret h hR dX5_person_13 ?_
  exact RC_of (Sv_b M _) rfl
theorem c_X5_pledge {M : Pl} {b np nq k : Nat} {s : Nat → Int32} {i j a kd v : Int32} {w : Wd} (hn : s 0 = nI np) (h4 : np ≤ 4) (hq : s 1 = nI nq) (h8 : nq ≤ 8) (h3 : M 3 0 = nI k) (h4s : k ≤ 4) : K_X5_pledge [.ref b, .int i, .int j, .int a, .int kd, .int v] (mz w b M s) (RC (mMk s i j a kd v) s k w b M) := by
  refine Con.mk [some (.ref b), some (.int i), some (.int j), some (.int a), some (.int kd), some (.int v)] (by decide) rfl rfl (Nat.le_of_ble_eq_true rfl) (fun X h hR hnm => ?_)
  refine V.aload0 h 1 dX5_pledge_0 rfl (V.callVfv (As := []) (st := []) h 4 dX5_pledge_1 rfl k597 k594 k596 ks53 k6 hd_X5_begins ⟨(Nat.le_of_ble_eq_true rfl), (Nat.le_of_ble_eq_true rfl)⟩ (Nat.le_of_ble_eq_true rfl) zo rfl rfl ⟨Nat.zero_le _, Nat.zero_le _⟩ c_X5_begins rfl (V.aload0 h 5 dX5_pledge_4 rfl (V.aload0 h 6 dX5_pledge_5 rfl (V.iload1 h 7 dX5_pledge_6 rfl (V.iload2 h 8 dX5_pledge_7 rfl (V.iload3 h 9 dX5_pledge_8 rfl (V.iload4 h 11 dX5_pledge_9 rfl ?_)))))))
  refine V.iload5 h 13 dX5_pledge_11 rfl (V.callVf (As := [.int _, .int _, .int _, .int _, .int _]) (st := [.ref _]) h 16 dX5_pledge_13 rfl k624 k621 k623 ks57 k6 hd_X5_makes ⟨(Nat.le_of_ble_eq_true rfl), (Nat.le_of_ble_eq_true rfl)⟩ (Nat.le_of_ble_eq_true rfl) zo rfl rfl ⟨Nat.zero_le _, Nat.zero_le _⟩ (c_X5_makes hn h4 hq h8) rfl (V.callVf (As := [.int _]) (st := []) h 19 dX5_pledge_16 rfl k608 k605 k607 ks55 k6 hd_X5_acted ⟨(Nat.le_of_ble_eq_true rfl), (Nat.le_of_ble_eq_true rfl)⟩ (Nat.le_of_ble_eq_true rfl) zo rfl rfl ⟨Nat.zero_le _, Nat.zero_le _⟩ (c_X5_acted h3 h4s) rfl ?_))
  refine V.iret h hR dX5_pledge_19 ?_
  exact RC_of (Sv_b M _) rfl
theorem c_X5_withdraw {M : Pl} {b k : Nat} {s : Nat → Int32} {v : Int32} {w : Wd} (hok : sOK s) (h3 : M 3 0 = nI k) (h4s : k ≤ 4) : K_X5_withdraw [.ref b, .int v] (mz w b M s) (RC (mWd s (mX M) v) s k w b M) := by
  refine Con.mk [some (.ref b), some (.int v)] (by decide) rfl rfl (Nat.le_of_ble_eq_true rfl) (fun X h hR hnm => ?_)
  refine V.aload0 h 1 dX5_withdraw_0 rfl (V.callVfv (As := []) (st := []) h 4 dX5_withdraw_1 rfl k597 k594 k596 ks53 k6 hd_X5_begins ⟨(Nat.le_of_ble_eq_true rfl), (Nat.le_of_ble_eq_true rfl)⟩ (Nat.le_of_ble_eq_true rfl) zo rfl rfl ⟨Nat.zero_le _, Nat.zero_le _⟩ c_X5_begins rfl (V.aload0 h 5 dX5_withdraw_4 rfl (V.aload0 h 6 dX5_withdraw_5 rfl (V.iload1 h 7 dX5_withdraw_6 rfl (V.callVe (As := [.int _]) (st := [.ref _]) h 10 dX5_withdraw_7 rfl k675 k672 k674 ks68 k6 hd_X5_withdraws ⟨(Nat.le_of_ble_eq_true rfl), (Nat.le_of_ble_eq_true rfl)⟩ (Nat.le_of_ble_eq_true rfl) zo rfl rfl ⟨Nat.zero_le _, Nat.zero_le _⟩ (c_X5_withdraws hok) rfl (fun w7 hw7 => ?_))))))
  obtain ⟨M1, hM1, rfl⟩ := hw7
  have h3' : M1 3 0 = nI k := by rw [hM1 3 (by decide) (by decide)]; exact h3
  refine V.callVf (As := [.int _]) (st := []) h 13 dX5_withdraw_10 rfl k608 k605 k607 ks55 k6 hd_X5_acted ⟨(Nat.le_of_ble_eq_true rfl), (Nat.le_of_ble_eq_true rfl)⟩ (Nat.le_of_ble_eq_true rfl) zo rfl rfl ⟨Nat.zero_le _, Nat.zero_le _⟩ (c_X5_acted h3' h4s) rfl ?_
  refine V.iret h hR dX5_withdraw_13 ?_
  exact RC_of (Sv.sc (Sv_b M _) hM1) (by rw [hM1 1 (by decide) (by decide)]; rfl)
theorem c_X5_callIn {M : Pl} {b np k : Nat} {s : Nat → Int32} {v : Int32} {w : Wd} (hok : sOK s) (hn : s 0 = nI np) (h4 : np ≤ 4) (hg : ∀ j, gOK s (forP (vP s) (nI j) &&& std (vP s) (mX M) 0)) (h3 : M 3 0 = nI k) (h4s : k ≤ 4) : K_X5_callIn [.ref b, .int v] (mz w b M s) (RC (mCa s (mX M) v) s k w b M) := by
  refine Con.mk [some (.ref b), some (.int v)] (by decide) rfl rfl (Nat.le_of_ble_eq_true rfl) (fun X h hR hnm => ?_)
  refine V.aload0 h 1 dX5_callIn_0 rfl (V.callVfv (As := []) (st := []) h 4 dX5_callIn_1 rfl k597 k594 k596 ks53 k6 hd_X5_begins ⟨(Nat.le_of_ble_eq_true rfl), (Nat.le_of_ble_eq_true rfl)⟩ (Nat.le_of_ble_eq_true rfl) zo rfl rfl ⟨Nat.zero_le _, Nat.zero_le _⟩ c_X5_begins rfl (V.aload0 h 5 dX5_callIn_4 rfl (V.aload0 h 6 dX5_callIn_5 rfl (V.iload1 h 7 dX5_callIn_6 rfl (V.callVe (As := [.int _]) (st := [.ref _]) h 10 dX5_callIn_7 rfl k727 k724 k726 ks80 k6 hd_X5_calls ⟨(Nat.le_of_ble_eq_true rfl), (Nat.le_of_ble_eq_true rfl)⟩ (Nat.le_of_ble_eq_true rfl) zo rfl rfl ⟨Nat.zero_le _, Nat.zero_le _⟩ (c_X5_calls hok hn h4 hg) rfl (fun w7 hw7 => ?_))))))
  obtain ⟨M1, hM1, rfl⟩ := hw7
  have h3' : M1 3 0 = nI k := by rw [hM1 3 (by decide) (by decide)]; exact h3
  refine V.callVf (As := [.int _]) (st := []) h 13 dX5_callIn_10 rfl k608 k605 k607 ks55 k6 hd_X5_acted ⟨(Nat.le_of_ble_eq_true rfl), (Nat.le_of_ble_eq_true rfl)⟩ (Nat.le_of_ble_eq_true rfl) zo rfl rfl ⟨Nat.zero_le _, Nat.zero_le _⟩ (c_X5_acted h3' h4s) rfl ?_
  refine V.iret h hR dX5_callIn_13 ?_
  exact RC_of (Sv.sc (Sv_b M _) hM1) (by rw [hM1 1 (by decide) (by decide)]; rfl)
def rRun (M : Pl) (n : Nat) (s : Nat → Int32) : Int32 × (Nat → Int32) × Int32 × Int32 := mRun (M 4) n (mX M) (n + 1) 0 0 s (M 14)
def qFa (M : Pl) (n : Nat) (s : Nat → Int32) (what : Int32) : Int32 :=
  if rng 0 what 2 = true then
    (if (rRun M n s).1 < 0 then -4 else if what = 0 then (rRun M n s).1 else if what = 1 then (rRun M n s).2.2.1 else if (rRun M n s).2.2.1 = 1 then -4 else (rRun M n s).2.2.2)
  else -1
theorem c_X5_fault {M : Pl} {b n : Nat} {s : Nat → Int32} {what : Int32} {w : Wd} (h5 : M 5 0 = nI n) (h80 : n ≤ 80) (I : (Nat → Int32) → Prop) (hI : ∀ s, I s → sPre s (mX M)) (hst : ∀ s c N, I s → I (mDo s (mX M) c N).2) (hs : I s) : K_X5_fault [.ref b, .int what] (mz w b M s) (RE (qFa M n s what) (fun u => ∃ M', Sv M M' ∧ u = mz w b M' s)) := by
  refine Con.mk [some (.ref b), some (.int what), none] (by decide) rfl rfl (Nat.le_of_ble_eq_true rfl) (fun X h hR hnm => ?_)
  have hd := c_X5_does (M := ua M 1 (cp 125 s (M 1))) (w := w) (b := b) h5 h80 I hI hst hs
  obtain ⟨r, hr⟩ : ∃ r, r = rRun M n s := ⟨_, rfl⟩
  have hqf : qFa M n s what = (if rng 0 what 2 = true then (if r.1 < 0 then -4 else if what = 0 then r.1 else if what = 1 then r.2.2.1 else if r.2.2.1 = 1 then -4 else r.2.2.2) else -1) := by rw [hr]; rfl
  have hd : K_X5_does [.ref b] (mz w b (ua M 1 (cp 125 s (M 1))) s) (RE r.1 (fun u => ∃ M', Su (ua M 1 (cp 125 s (M 1))) M' ∧ (0 ≤ r.1 → M' 12 0 = r.2.2.1 ∧ M' 13 0 = r.2.2.2) ∧ u = mz w b M' r.2.1)) := by rw [hr]; exact hd
  refine V.iload1 h 1 dX5_fault_0 rfl (V.iconst h 2 dX5_fault_1 rfl ic1_0 (V.iconst h 3 dX5_fault_2 rfl ic1_2 (V.callSf (As := [.int _, .int _, .int _]) (st := []) h 6 dX5_fault_3 rfl k604 k602 k603 k6 hd_X5_in ⟨(Nat.le_of_ble_eq_true rfl), (Nat.le_of_ble_eq_true rfl)⟩ (Nat.le_of_ble_eq_true rfl) ⟨Nat.zero_le _, Nat.zero_le _⟩ c_X5_in rfl ?_)))
  refine V.bif_ne h 11 9 dX5_fault_6 rfl rfl (fun c6 => ?_) (fun c6 => ?_)
  · refine V.aload0 h 12 dX5_fault_11 rfl (V.callVfv (As := []) (st := []) h 15 dX5_fault_12 rfl k597 k594 k596 ks53 k6 hd_X5_begins ⟨(Nat.le_of_ble_eq_true rfl), (Nat.le_of_ble_eq_true rfl)⟩ (Nat.le_of_ble_eq_true rfl) zo rfl rfl ⟨Nat.zero_le _, Nat.zero_le _⟩ c_X5_begins rfl (V.aload0 h 16 dX5_fault_15 rfl (V.callVe (As := []) (st := []) h 19 dX5_fault_16 rfl k818 k815 k817 ks91 k6 hd_X5_does ⟨(Nat.le_of_ble_eq_true rfl), (Nat.le_of_ble_eq_true rfl)⟩ (Nat.le_of_ble_eq_true rfl) zo rfl rfl ⟨Nat.zero_le _, Nat.zero_le _⟩ hd rfl (fun w16 hw16 => ?_))))
    obtain ⟨M1, hM1, hrc, rfl⟩ := hw16
    refine V.istore2 h 20 dX5_fault_19 rfl rfl ?_
    have hret : ∀ k, k < 125 → M1 1 k = s k := fun k hk => by rw [hM1 1 (by decide) (by decide) (by decide) (by decide) (by decide) (by decide) (by decide)]; show cp 125 s (M 1) k = _; unfold cp; rw [if_pos hk]
    have hSv : Sv M M1 := Sv.su (Sv_b M _) hM1
    rw [show rng 0 what 2 = true from c6, if_pos rfl] at hqf
    refine V.aload0 h 21 dX5_fault_20 rfl (V.callVfv (As := []) (st := []) h 24 dX5_fault_21 rfl k838 k835 k837 ks96 k6 hd_X5_returns ⟨(Nat.le_of_ble_eq_true rfl), (Nat.le_of_ble_eq_true rfl)⟩ (Nat.le_of_ble_eq_true rfl) zo rfl rfl ⟨Nat.zero_le _, Nat.zero_le _⟩ (c_returns hret) rfl (V.iload2 h 25 dX5_fault_24 rfl ?_))
    refine V.if_lt h 41 28 dX5_fault_25 rfl rfl (fun c25 => ?_) (fun c25 => ?_)
    · refine V.bipush h 43 dX5_fault_41 rfl ic2_m4 ?_
      refine V.iret h hR dX5_fault_43 ?_
      refine ⟨?_, M1, hSv, rfl⟩
      rw [hqf]
      first
      | rw [if_pos (show r.1 < 0 from c25)]
      | rw [if_neg (show ¬ r.1 < 0 from c25), if_neg (show ¬ what = 0 by rw [show what = 2 from c30]; decide), if_neg (show ¬ what = 1 by rw [show what = 2 from c30]; decide), if_pos (show r.2.2.1 = 1 from (hrc (nlt c25)).1.symm.trans c38)]
    · refine V.iload1 h 29 dX5_fault_28 rfl (V.iconst h 30 dX5_fault_29 rfl ic1_2 ?_)
      refine V.icmp_ne h 44 33 dX5_fault_30 rfl rfl (fun c30 => ?_) (fun c30 => ?_)
      · refine V.iload1 h 45 dX5_fault_44 rfl ?_
        refine V.if_ne h 52 48 dX5_fault_45 rfl rfl (fun c45 => ?_) (fun c45 => ?_)
        · refine V.iload1 h 53 dX5_fault_52 rfl (V.iconst h 54 dX5_fault_53 rfl ic1_1 ?_)
          refine V.icmp_ne h 64 57 dX5_fault_54 rfl rfl (fun c54 => ?_) (fun c54 => ?_)
          · refine V.aload0 h 65 dX5_fault_64 rfl (V.gX5 h 13 68 dX5_fault_65 rfl rfl k557 zo rfl ?_)
            refine V.iret h hR dX5_fault_68 ?_
            refine ⟨?_, M1, hSv, rfl⟩
            rw [hqf, if_neg (show ¬ r.1 < 0 from c25)]
            by_cases h0 : what = 0
            · first | exact absurd h0 c45 | rw [if_pos h0]
            · rw [if_neg h0]
              by_cases h1 : what = 1
              · first | exact absurd h1 c54 | exact absurd c45 h0 | rw [if_pos h1, ← (hrc (nlt c25)).1]
              · rw [if_neg h1]
                have h2 : what = 2 := by
                  obtain ⟨j, hj, e⟩ := rng_nat (n := 2) (by decide) (show rng 0 what (nI 2) = true from c6)
                  match j, hj, e with
                  | 0, _, e => exact absurd e h0
                  | 1, _, e => exact absurd e h1
                  | 2, _, e => exact e
                first
                | exact absurd h2 c30
                | exact absurd c45 h0
                | exact absurd c54 h1
                | (rw [if_neg (show ¬ r.2.2.1 = 1 from fun q => c38 ((hrc (nlt c25)).1.trans q)), ← (hrc (nlt c25)).2])
          · refine V.aload0 h 58 dX5_fault_57 rfl (V.gX5 h 12 61 dX5_fault_58 rfl rfl k556 zo rfl (V.goto h 68 dX5_fault_61 rfl ?_))
            refine V.iret h hR dX5_fault_68 ?_
            refine ⟨?_, M1, hSv, rfl⟩
            rw [hqf, if_neg (show ¬ r.1 < 0 from c25)]
            by_cases h0 : what = 0
            · first | exact absurd h0 c45 | rw [if_pos h0]
            · rw [if_neg h0]
              by_cases h1 : what = 1
              · first | exact absurd h1 c54 | exact absurd c45 h0 | rw [if_pos h1, ← (hrc (nlt c25)).1]
              · rw [if_neg h1]
                have h2 : what = 2 := by
                  obtain ⟨j, hj, e⟩ := rng_nat (n := 2) (by decide) (show rng 0 what (nI 2) = true from c6)
                  match j, hj, e with
                  | 0, _, e => exact absurd e h0
                  | 1, _, e => exact absurd e h1
                  | 2, _, e => exact e
                first
                | exact absurd h2 c30
                | exact absurd c45 h0
                | exact absurd c54 h1
                | (rw [if_neg (show ¬ r.2.2.1 = 1 from fun q => c38 ((hrc (nlt c25)).1.trans q)), ← (hrc (nlt c25)).2])
        · refine V.iload2 h 49 dX5_fault_48 rfl (V.goto h 68 dX5_fault_49 rfl ?_)
          refine V.iret h hR dX5_fault_68 ?_
          refine ⟨?_, M1, hSv, rfl⟩
          rw [hqf, if_neg (show ¬ r.1 < 0 from c25)]
          by_cases h0 : what = 0
          · first | exact absurd h0 c45 | rw [if_pos h0]
          · rw [if_neg h0]
            by_cases h1 : what = 1
            · first | exact absurd h1 c54 | exact absurd c45 h0 | rw [if_pos h1, ← (hrc (nlt c25)).1]
            · rw [if_neg h1]
              have h2 : what = 2 := by
                obtain ⟨j, hj, e⟩ := rng_nat (n := 2) (by decide) (show rng 0 what (nI 2) = true from c6)
                match j, hj, e with
                | 0, _, e => exact absurd e h0
                | 1, _, e => exact absurd e h1
                | 2, _, e => exact e
              first
              | exact absurd h2 c30
              | exact absurd c45 h0
              | exact absurd c54 h1
              | (rw [if_neg (show ¬ r.2.2.1 = 1 from fun q => c38 ((hrc (nlt c25)).1.trans q)), ← (hrc (nlt c25)).2])
      · refine V.aload0 h 34 dX5_fault_33 rfl (V.gX5 h 12 37 dX5_fault_34 rfl rfl k556 zo rfl (V.iconst h 38 dX5_fault_37 rfl ic1_1 ?_))
        refine V.icmp_ne h 44 41 dX5_fault_38 rfl rfl (fun c38 => ?_) (fun c38 => ?_)
        · refine V.iload1 h 45 dX5_fault_44 rfl ?_
          refine V.if_ne h 52 48 dX5_fault_45 rfl rfl (fun c45 => ?_) (fun c45 => ?_)
          · refine V.iload1 h 53 dX5_fault_52 rfl (V.iconst h 54 dX5_fault_53 rfl ic1_1 ?_)
            refine V.icmp_ne h 64 57 dX5_fault_54 rfl rfl (fun c54 => ?_) (fun c54 => ?_)
            · refine V.aload0 h 65 dX5_fault_64 rfl (V.gX5 h 13 68 dX5_fault_65 rfl rfl k557 zo rfl ?_)
              refine V.iret h hR dX5_fault_68 ?_
              refine ⟨?_, M1, hSv, rfl⟩
              rw [hqf, if_neg (show ¬ r.1 < 0 from c25)]
              by_cases h0 : what = 0
              · first | exact absurd h0 c45 | rw [if_pos h0]
              · rw [if_neg h0]
                by_cases h1 : what = 1
                · first | exact absurd h1 c54 | exact absurd c45 h0 | rw [if_pos h1, ← (hrc (nlt c25)).1]
                · rw [if_neg h1]
                  have h2 : what = 2 := by
                    obtain ⟨j, hj, e⟩ := rng_nat (n := 2) (by decide) (show rng 0 what (nI 2) = true from c6)
                    match j, hj, e with
                    | 0, _, e => exact absurd e h0
                    | 1, _, e => exact absurd e h1
                    | 2, _, e => exact e
                  first
                  | exact absurd h2 c30
                  | exact absurd c45 h0
                  | exact absurd c54 h1
                  | (rw [if_neg (show ¬ r.2.2.1 = 1 from fun q => c38 ((hrc (nlt c25)).1.trans q)), ← (hrc (nlt c25)).2])
            · refine V.aload0 h 58 dX5_fault_57 rfl (V.gX5 h 12 61 dX5_fault_58 rfl rfl k556 zo rfl (V.goto h 68 dX5_fault_61 rfl ?_))
              refine V.iret h hR dX5_fault_68 ?_
              refine ⟨?_, M1, hSv, rfl⟩
              rw [hqf, if_neg (show ¬ r.1 < 0 from c25)]
              by_cases h0 : what = 0
              · first | exact absurd h0 c45 | rw [if_pos h0]
              · rw [if_neg h0]
                by_cases h1 : what = 1
                · first | exact absurd h1 c54 | exact absurd c45 h0 | rw [if_pos h1, ← (hrc (nlt c25)).1]
                · rw [if_neg h1]
                  have h2 : what = 2 := by
                    obtain ⟨j, hj, e⟩ := rng_nat (n := 2) (by decide) (show rng 0 what (nI 2) = true from c6)
                    match j, hj, e with
                    | 0, _, e => exact absurd e h0
                    | 1, _, e => exact absurd e h1
                    | 2, _, e => exact e
                  first
                  | exact absurd h2 c30
                  | exact absurd c45 h0
                  | exact absurd c54 h1
                  | (rw [if_neg (show ¬ r.2.2.1 = 1 from fun q => c38 ((hrc (nlt c25)).1.trans q)), ← (hrc (nlt c25)).2])
          · refine V.iload2 h 49 dX5_fault_48 rfl (V.goto h 68 dX5_fault_49 rfl ?_)
            refine V.iret h hR dX5_fault_68 ?_
            refine ⟨?_, M1, hSv, rfl⟩
            rw [hqf, if_neg (show ¬ r.1 < 0 from c25)]
            by_cases h0 : what = 0
            · first | exact absurd h0 c45 | rw [if_pos h0]
            · rw [if_neg h0]
              by_cases h1 : what = 1
              · first | exact absurd h1 c54 | exact absurd c45 h0 | rw [if_pos h1, ← (hrc (nlt c25)).1]
              · rw [if_neg h1]
                have h2 : what = 2 := by
                  obtain ⟨j, hj, e⟩ := rng_nat (n := 2) (by decide) (show rng 0 what (nI 2) = true from c6)
                  match j, hj, e with
                  | 0, _, e => exact absurd e h0
                  | 1, _, e => exact absurd e h1
                  | 2, _, e => exact e
                first
                | exact absurd h2 c30
                | exact absurd c45 h0
                | exact absurd c54 h1
                | (rw [if_neg (show ¬ r.2.2.1 = 1 from fun q => c38 ((hrc (nlt c25)).1.trans q)), ← (hrc (nlt c25)).2])
        · refine V.bipush h 43 dX5_fault_41 rfl ic2_m4 ?_
          refine V.iret h hR dX5_fault_43 ?_
          refine ⟨?_, M1, hSv, rfl⟩
          rw [hqf]
          first
          | rw [if_pos (show r.1 < 0 from c25)]
          | rw [if_neg (show ¬ r.1 < 0 from c25), if_neg (show ¬ what = 0 by rw [show what = 2 from c30]; decide), if_neg (show ¬ what = 1 by rw [show what = 2 from c30]; decide), if_pos (show r.2.2.1 = 1 from (hrc (nlt c25)).1.symm.trans c38)]
  · refine V.iconst h 10 dX5_fault_9 rfl ic1_m1 ?_
    refine V.iret h hR dX5_fault_10 ?_
    rw [hqf, show rng 0 what 2 = false from c6]
    exact ⟨rfl, M, fun _ _ _ _ _ _ _ _ _ => rfl, rfl⟩
theorem c_X5_play {M : Pl} {b n k : Nat} {s : Nat → Int32} {w : Wd} (h5 : M 5 0 = nI n) (h80 : n ≤ 80) (I : (Nat → Int32) → Prop) (hI : ∀ s, I s → sPre s (mX M)) (hst : ∀ s c N, I s → I (mDo s (mX M) c N).2) (hs : I s) (h3 : M 3 0 = nI k) (h4s : k ≤ 4) : K_X5_play [.ref b] (mz w b M s) (RC (if 0 ≤ (rRun M n s).1 then (-2, s) else (-1 - (rRun M n s).1, (rRun M n s).2.1)) s k w b M) := by
  refine Con.mk [some (.ref b), none] (by decide) rfl rfl (Nat.le_of_ble_eq_true rfl) (fun X h hR hnm => ?_)
  have hd := c_X5_does (M := ua M 1 (cp 125 s (M 1))) (w := w) (b := b) h5 h80 I hI hst hs
  obtain ⟨r, hr⟩ : ∃ r, r = rRun M n s := ⟨_, rfl⟩
  have hd : K_X5_does [.ref b] (mz w b (ua M 1 (cp 125 s (M 1))) s) (RE r.1 (fun u => ∃ M', Su (ua M 1 (cp 125 s (M 1))) M' ∧ (0 ≤ r.1 → M' 12 0 = r.2.2.1 ∧ M' 13 0 = r.2.2.2) ∧ u = mz w b M' r.2.1)) := by rw [hr]; exact hd
  rw [← hr] at hR
  refine V.aload0 h 1 dX5_play_0 rfl (V.callVfv (As := []) (st := []) h 4 dX5_play_1 rfl k597 k594 k596 ks53 k6 hd_X5_begins ⟨(Nat.le_of_ble_eq_true rfl), (Nat.le_of_ble_eq_true rfl)⟩ (Nat.le_of_ble_eq_true rfl) zo rfl rfl ⟨Nat.zero_le _, Nat.zero_le _⟩ c_X5_begins rfl (V.aload0 h 5 dX5_play_4 rfl (V.callVe (As := []) (st := []) h 8 dX5_play_5 rfl k818 k815 k817 ks91 k6 hd_X5_does ⟨(Nat.le_of_ble_eq_true rfl), (Nat.le_of_ble_eq_true rfl)⟩ (Nat.le_of_ble_eq_true rfl) zo rfl rfl ⟨Nat.zero_le _, Nat.zero_le _⟩ hd rfl (fun w5 hw5 => ?_))))
  obtain ⟨M1, hM1, hrc, rfl⟩ := hw5
  refine V.istore1 h 9 dX5_play_8 rfl rfl ?_
  have hret : ∀ k, k < 125 → M1 1 k = s k := fun k hk => by rw [hM1 1 (by decide) (by decide) (by decide) (by decide) (by decide) (by decide) (by decide)]; show cp 125 s (M 1) k = _; unfold cp; rw [if_pos hk]
  have hSv : Sv M M1 := Sv.su (Sv_b M _) hM1
  have h3' : M1 3 0 = nI k := by rw [hSv 3 (by decide) (by decide) (by decide) (by decide) (by decide) (by decide) (by decide) (by decide)]; exact h3
  have h11 : M1 1 = cp 125 s (M 1) := hM1 1 (by decide) (by decide) (by decide) (by decide) (by decide) (by decide) (by decide)
  refine V.iload1 h 10 dX5_play_9 rfl ?_
  refine V.if_lt h 20 13 dX5_play_10 rfl rfl (fun c10 => ?_) (fun c10 => ?_)
  · refine V.aload0 h 21 dX5_play_20 rfl (V.iconst h 22 dX5_play_21 rfl ic1_m1 (V.iload1 h 23 dX5_play_22 rfl (V.isub h 24 dX5_play_23 rfl (V.callVf (As := [.int _]) (st := []) h 27 dX5_play_24 rfl k608 k605 k607 ks55 k6 hd_X5_acted ⟨(Nat.le_of_ble_eq_true rfl), (Nat.le_of_ble_eq_true rfl)⟩ (Nat.le_of_ble_eq_true rfl) zo rfl rfl ⟨Nat.zero_le _, Nat.zero_le _⟩ (c_X5_acted h3' h4s) rfl ?_))))
    refine V.iret h hR dX5_play_27 ?_
    rw [if_neg (lt_n c10)]
    exact RC_of (q := (-1 - r.1, r.2.1)) hSv h11
  · refine V.aload0 h 14 dX5_play_13 rfl (V.callVfv (As := []) (st := []) h 17 dX5_play_14 rfl k838 k835 k837 ks96 k6 hd_X5_returns ⟨(Nat.le_of_ble_eq_true rfl), (Nat.le_of_ble_eq_true rfl)⟩ (Nat.le_of_ble_eq_true rfl) zo rfl rfl ⟨Nat.zero_le _, Nat.zero_le _⟩ (c_returns hret) rfl (V.bipush h 19 dX5_play_17 rfl ic2_m2 ?_))
    refine V.iret h hR dX5_play_19 ?_
    rw [if_pos (nlt c10)]
    exact ⟨rfl, M1, by unfold Chg; rw [if_pos (show (-2 : Int32) < 0 by decide)]; exact hSv, rfl⟩
