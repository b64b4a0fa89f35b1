/-! the reference: pushes, and what is told of projects, persons and sets -/
theorem z_us {w : Wd} {b : Nat} {M : Pl} {s : Nat → Int32} {f : Nat} {v : Int32} (hf : f ≠ 0) : ms w b (us (ua M 0 s) f v) = mz w b (us M f v) s := by rw [us_ua _ _ _ hf]
/-- the same but for the notes of waves and of a push; no push is thought of -/
def Sp (M M' : Pl) : Prop := (∀ f, f ≠ 6 → f ≠ 7 → f ≠ 8 → f ≠ 9 → M' f = M f) ∧ M' 6 0 = M 6 0
theorem Sc.sp {M M' : Pl} (h : Sc M M') : Sp M M' := ⟨fun f _ _ h8 h9 => h f h8 h9, by rw [h 6 (by decide) (by decide)]⟩
theorem Sp.rf {M : Pl} : Sp M M := Sc.rf.sp
theorem Sp.tr {M M' M'' : Pl} (h : Sp M M') (h' : Sp M' M'') : Sp M M'' := ⟨fun f a b c d => (h'.1 f a b c d).trans (h.1 f a b c d), h'.2.trans h.2⟩
def RP (q : Int32 × (Nat → Int32)) (w : Wd) (b : Nat) (M : Pl) : Option Value → Wd → Prop := RE q.1 (fun u => ∃ M', Sp M M' ∧ u = mz w b M' q.2)
theorem RP_of {q : Int32 × (Nat → Int32)} {r : Int32} {s1 : Nat → Int32} {w : Wd} {b : Nat} {M M' : Pl} (h : q = (r, s1)) (hs : Sp M M') : RP q w b M (some (.int r)) (mz w b M' s1) := by rw [h]; exact ⟨rfl, M', hs, rfl⟩
/-- m is the least amount that would do -/
def isPush (P : Pl) (j : Int32) (m : Nat) : Prop := 1 ≤ m ∧ m ≤ 999 ∧ hasG P (j, nI m) (std P (j, nI m) 0) j = true ∧ ∀ k, 1 ≤ k → k < m → hasG P (j, nI k) (std P (j, nI k) 0) j = false
theorem c_X5_pushOf {M : Pl} {b j m : Nat} {s : Nat → Int32} {w : Wd} (hok : sOK s) (hj : j < 4) (hm : isPush (vP s) (nI j) m) (h6 : M 6 0 = -1) : K_X5_pushOf [.ref b, .int (nI j)] (mz w b M s) (RP (if hasG (vP s) (mX M) (std (vP s) (mX M) 0) (nI j) = true then 0 else nI m, s) w b M) := by
  refine Con.mk [some (.ref b), some (.int (nI j))] (by decide) rfl rfl (Nat.le_of_ble_eq_true rfl) (fun X h hR hnm => ?_)
  have L : ∀ (d k : Nat) (M' : Pl), hasG (vP s) (mX M) (std (vP s) (mX M) 0) (nI j) = false → 1 ≤ k → k + d = m → (∀ f, f ≠ 6 → f ≠ 7 → f ≠ 8 → f ≠ 9 → M' f = M f) → M' 6 0 = nI j → M' 7 0 = nI k →
      V X 0 0 25 [some (.ref b), some (.int (nI j))] [] (mz w b M' s) := by
    intro d
    induction d with
    | zero =>
      intro k M' hno h1 hk hM e6 e7
      obtain rfl : k = m := by omega
      have ex : mX M' = (nI j, nI k) := by unfold mX; rw [e6, e7]
      refine V.aload0 h 26 dX5_pushOf_25 rfl (V.aload0 h 27 dX5_pushOf_26 rfl (V.iconst h 28 dX5_pushOf_27 rfl ic1_0 (V.callVf (As := [.int _]) (st := [.ref _]) h 31 dX5_pushOf_28 rfl k683 k680 k682 ks70 k6 hd_X5_stands ⟨(Nat.le_of_ble_eq_true rfl), (Nat.le_of_ble_eq_true rfl)⟩ (Nat.le_of_ble_eq_true rfl) mo rfl rfl ⟨Nat.zero_le _, Nat.zero_le _⟩ (c_stands hok) rfl (V.iload1 h 32 dX5_pushOf_31 rfl (V.callVf (As := [.int _, .int _]) (st := []) h 35 dX5_pushOf_32 rfl k731 k728 k730 ks81 k6 hd_X5_hasGoal ⟨(Nat.le_of_ble_eq_true rfl), (Nat.le_of_ble_eq_true rfl)⟩ (Nat.le_of_ble_eq_true rfl) mo rfl rfl ⟨Nat.zero_le _, Nat.zero_le _⟩ (c_hasGoal (by assumption)) rfl ?_)))))
      refine V.bif_ne h 51 38 dX5_pushOf_35 rfl rfl (fun _ => ?_) (fun q => absurd ((Eq.symm (show hasG (vP s) (mX M') (std (vP s) (mX M') 0) (nI j) = true by rw [ex]; exact hm.2.2.1)).trans q) (by decide))
      refine V.aload0 h 52 dX5_pushOf_51 rfl (V.iconst h 53 dX5_pushOf_52 rfl ic1_m1 (V.sX5 h 6 56 dX5_pushOf_53 rfl rfl k550 rfl rfl rfl mo rfl (V.at _ mp6 ?_)))
      refine V.at _ (z_us (by decide)) ?_
      refine V.aload0 h 57 dX5_pushOf_56 rfl (V.gX5 h 7 60 dX5_pushOf_57 rfl rfl k551 mo rfl ?_)
      refine V.iret h hR dX5_pushOf_60 ?_
      refine ⟨?_, _, ⟨?_, ?_⟩, rfl⟩
      · rw [if_neg (by rw [hno]; decide)]; exact congrArg (fun z => some (Value.int z)) e7
      · intro f a b c d; unfold us; rw [if_neg a]; exact (Sc.of_sc (M := M') f c d).trans (hM f a b c d)
      · exact h6.symm
    | succ d ih =>
      intro k M' hno h1 hk hM e6 e7
      have ex : mX M' = (nI j, nI k) := by unfold mX; rw [e6, e7]
      refine V.aload0 h 26 dX5_pushOf_25 rfl (V.aload0 h 27 dX5_pushOf_26 rfl (V.iconst h 28 dX5_pushOf_27 rfl ic1_0 (V.callVf (As := [.int _]) (st := [.ref _]) h 31 dX5_pushOf_28 rfl k683 k680 k682 ks70 k6 hd_X5_stands ⟨(Nat.le_of_ble_eq_true rfl), (Nat.le_of_ble_eq_true rfl)⟩ (Nat.le_of_ble_eq_true rfl) mo rfl rfl ⟨Nat.zero_le _, Nat.zero_le _⟩ (c_stands hok) rfl (V.iload1 h 32 dX5_pushOf_31 rfl (V.callVf (As := [.int _, .int _]) (st := []) h 35 dX5_pushOf_32 rfl k731 k728 k730 ks81 k6 hd_X5_hasGoal ⟨(Nat.le_of_ble_eq_true rfl), (Nat.le_of_ble_eq_true rfl)⟩ (Nat.le_of_ble_eq_true rfl) mo rfl rfl ⟨Nat.zero_le _, Nat.zero_le _⟩ (c_hasGoal (by assumption)) rfl ?_)))))
      refine V.bif_ne h 51 38 dX5_pushOf_35 rfl rfl (fun q => absurd ((Eq.symm (show hasG (vP s) (mX M') (std (vP s) (mX M') 0) (nI j) = false by rw [ex]; exact hm.2.2.2 k h1 (by omega))).trans q) (by decide)) (fun _ => ?_)
      refine V.aload0 h 39 dX5_pushOf_38 rfl (V.dup h 40 dX5_pushOf_39 rfl rfl (V.gX5 h 7 43 dX5_pushOf_40 rfl rfl k551 mo rfl (V.iconst h 44 dX5_pushOf_43 rfl ic1_1 (V.iadd h 45 dX5_pushOf_44 rfl (V.sX5 h 7 48 dX5_pushOf_45 rfl rfl k551 rfl rfl rfl mo rfl (V.at _ mp7 ?_))))))
      refine V.at _ (z_us (by decide)) ?_
      refine V.goto h 25 dX5_pushOf_48 rfl ?_
      refine ih (k + 1) _ hno (by omega) (by omega) (fun f a b c d => ?_) e6 ?_
      · unfold us; rw [if_neg b]; exact (Sc.of_sc (M := M') f c d).trans (hM f a b c d)
      · show M' 7 0 + 1 = _; rw [e7]; exact (nI_succ k).symm
  refine V.aload0 h 1 dX5_pushOf_0 rfl (V.aload0 h 2 dX5_pushOf_1 rfl (V.iconst h 3 dX5_pushOf_2 rfl ic1_0 (V.callVf (As := [.int _]) (st := [.ref _]) h 6 dX5_pushOf_3 rfl k683 k680 k682 ks70 k6 hd_X5_stands ⟨(Nat.le_of_ble_eq_true rfl), (Nat.le_of_ble_eq_true rfl)⟩ (Nat.le_of_ble_eq_true rfl) mo rfl rfl ⟨Nat.zero_le _, Nat.zero_le _⟩ (c_stands hok) rfl (V.iload1 h 7 dX5_pushOf_6 rfl (V.callVf (As := [.int _, .int _]) (st := []) h 10 dX5_pushOf_7 rfl k731 k728 k730 ks81 k6 hd_X5_hasGoal ⟨(Nat.le_of_ble_eq_true rfl), (Nat.le_of_ble_eq_true rfl)⟩ (Nat.le_of_ble_eq_true rfl) mo rfl rfl ⟨Nat.zero_le _, Nat.zero_le _⟩ (c_hasGoal (by assumption)) rfl ?_)))))
  refine V.bif_eq h 15 13 dX5_pushOf_10 rfl rfl (fun c10 => ?_) (fun c10 => ?_)
  · refine V.aload0 h 16 dX5_pushOf_15 rfl (V.iload1 h 17 dX5_pushOf_16 rfl (V.sX5 h 6 20 dX5_pushOf_17 rfl rfl k550 rfl rfl rfl mo rfl (V.at _ mp6 ?_)))
    refine V.at _ (z_us (by decide)) ?_
    refine V.aload0 h 21 dX5_pushOf_20 rfl (V.iconst h 22 dX5_pushOf_21 rfl ic1_1 (V.sX5 h 7 25 dX5_pushOf_22 rfl rfl k551 rfl rfl rfl mo rfl (V.at _ mp7 ?_)))
    refine V.at _ (z_us (by decide)) ?_
    refine L (m - 1) 1 _ c10 (Nat.le_refl _) (by have := hm.1; omega) (fun f a b c d => ?_) rfl rfl
    unfold us; rw [if_neg b, if_neg a]; exact Sc.of_sc (M := M) f c d
  · refine V.iconst h 14 dX5_pushOf_13 rfl ic1_0 ?_
    refine V.iret h hR dX5_pushOf_14 ?_
    exact RP_of (by rw [if_pos (show hasG (vP s) (mX M) (std (vP s) (mX M) 0) (nI j) = true from c10)]) Sc.of_sc.sp
/-- what is told of a project; m: its push if it lacks its goal -/
def qPr (s : Nat → Int32) (x : Ex) (m : Nat) (v what : Int32) : Int32 :=
  if (rng 0 v (s 0 - 1) && rng 0 what 9) = true then
    (if what = 0 then vP s 1 v.toNatClampNeg
     else if what = 1 then amt (vP s) (forP (vP s) v)
     else if what = 2 then amt (vP s) (forP (vP s) v &&& std (vP s) x 0)
     else if what = 3 then bI (hasG (vP s) x (std (vP s) x 0) v)
     else if what = 4 then bI (decide (s (5 + 2 * v.toNatClampNeg + 1) = 1))
     else if what = 5 then forP (vP s) v
     else if what = 6 then forP (vP s) v &&& std (vP s) x 0
     else if what = 7 then (if hasG (vP s) x (std (vP s) x 0) v = true then tipL s x v 13 0 else -4)
     else if what = 8 then (if hasG (vP s) x (std (vP s) x 0) v = true then ned (vP s) x v else -4)
     else (if s (5 + 2 * v.toNatClampNeg + 1) = 1 then -4 else if hasG (vP s) x (std (vP s) x 0) v = true then 0 else nI m))
  else -1
theorem c_goal {w : Wd} {b j : Nat} {M : Pl} {s : Nat → Int32} (hj : j < 4) : K_X5_goal [.ref b, .int (nI j)] (mz w b M s) (RI (vP s 1 j) (mz w b M s)) := c_X5_goal (M := ua M 0 s) hj
theorem c_X5_projectOf {M : Pl} {b np m : Nat} {s : Nat → Int32} {v what : Int32} {w : Wd} (hok : sOK s) (hn : s 0 = nI np) (h4 : np ≤ 4) (hm : what = 9 → ∀ j, j < np → v = nI j → s (5 + 2 * j + 1) ≠ 1 → isPush (vP s) v m) (h6 : M 6 0 = -1) : K_X5_projectOf [.ref b, .int v, .int what] (mz w b M s) (RP (qPr s (mX M) m v what, s) w b M) := by
  refine Con.mk [some (.ref b), some (.int v), some (.int what), none, none, none] (by decide) rfl rfl (Nat.le_of_ble_eq_true rfl) (fun X h hR hnm => ?_)
  refine V.aload0 h 1 dX5_projectOf_0 rfl (V.iload1 h 2 dX5_projectOf_1 rfl (V.callVf (As := [.int _]) (st := []) h 5 dX5_projectOf_2 rfl k632 k629 k631 ks59 k6 hd_X5_isProject ⟨(Nat.le_of_ble_eq_true rfl), (Nat.le_of_ble_eq_true rfl)⟩ (Nat.le_of_ble_eq_true rfl) mo rfl rfl ⟨Nat.zero_le _, Nat.zero_le _⟩ c_isProject rfl ?_))
  refine V.bif_eq h 18 8 dX5_projectOf_5 rfl rfl (fun c5 => ?_) (fun c5 => ?_)
  · refine V.iconst h 19 dX5_projectOf_18 rfl ic1_m1 ?_
    refine V.iret h hR dX5_projectOf_19 ?_
    first | exact RP_of (by unfold qPr rng; rw [c5]; rfl) Sp.rf | exact RP_of (by unfold qPr; rw [show rng 0 what 9 = false from c15, Bool.and_false]; rfl) Sp.rf
  · refine V.iload2 h 9 dX5_projectOf_8 rfl (V.iconst h 10 dX5_projectOf_9 rfl ic1_0 (V.bipush h 12 dX5_projectOf_10 rfl ic2_9 (V.callSf (As := [.int _, .int _, .int _]) (st := []) h 15 dX5_projectOf_12 rfl k604 k602 k603 k6 hd_X5_in ⟨(Nat.le_of_ble_eq_true rfl), (Nat.le_of_ble_eq_true rfl)⟩ (Nat.le_of_ble_eq_true rfl) ⟨Nat.zero_le _, Nat.zero_le _⟩ c_X5_in rfl ?_)))
    refine V.bif_ne h 20 18 dX5_projectOf_15 rfl rfl (fun c15 => ?_) (fun c15 => ?_)
    · obtain ⟨j, hjn, rfl⟩ := rng_pred (by omega) (show rng 0 v (nI np - 1) = true by rw [← hn]; exact c5)
      have hj : j < 4 := by omega
      have hq : qPr s (mX M) m (nI j) what = (if what = 0 then vP s 1 j else if what = 1 then amt (vP s) (forP (vP s) (nI j)) else if what = 2 then amt (vP s) (forP (vP s) (nI j) &&& std (vP s) (mX M) 0) else if what = 3 then bI (hasG (vP s) (mX M) (std (vP s) (mX M) 0) (nI j)) else if what = 4 then bI (decide (s (5 + 2 * j + 1) = 1)) else if what = 5 then forP (vP s) (nI j) else if what = 6 then forP (vP s) (nI j) &&& std (vP s) (mX M) 0 else if what = 7 then (if hasG (vP s) (mX M) (std (vP s) (mX M) 0) (nI j) = true then tipL s (mX M) (nI j) 13 0 else -4) else if what = 8 then (if hasG (vP s) (mX M) (std (vP s) (mX M) 0) (nI j) = true then ned (vP s) (mX M) (nI j) else -4) else (if s (5 + 2 * j + 1) = 1 then -4 else if hasG (vP s) (mX M) (std (vP s) (mX M) 0) (nI j) = true then 0 else nI m)) := by
        unfold qPr
        rw [show rng 0 (nI j) (s 0 - 1) = true from c5, show rng 0 what 9 = true from c15, nI_tn (by omega)]; rfl
      refine V.aload0 h 21 dX5_projectOf_20 rfl (V.iconst h 22 dX5_projectOf_21 rfl ic1_0 (V.callVf (As := [.int _]) (st := []) h 25 dX5_projectOf_22 rfl k683 k680 k682 ks70 k6 hd_X5_stands ⟨(Nat.le_of_ble_eq_true rfl), (Nat.le_of_ble_eq_true rfl)⟩ (Nat.le_of_ble_eq_true rfl) mo rfl rfl ⟨Nat.zero_le _, Nat.zero_le _⟩ (c_stands hok) rfl (V.istore3 h 26 dX5_projectOf_25 rfl rfl (V.aload0 h 27 dX5_projectOf_26 rfl (V.iload1 h 28 dX5_projectOf_27 rfl (V.callVf (As := [.int _]) (st := []) h 31 dX5_projectOf_28 rfl k735 k732 k734 ks82 k6 hd_X5_ofProject ⟨(Nat.le_of_ble_eq_true rfl), (Nat.le_of_ble_eq_true rfl)⟩ (Nat.le_of_ble_eq_true rfl) mo rfl rfl ⟨Nat.zero_le _, Nat.zero_le _⟩ c_ofProject rfl (V.istore4 h 33 dX5_projectOf_31 rfl rfl ?_)))))))
      refine V.aload0 h 34 dX5_projectOf_33 rfl (V.iload3 h 35 dX5_projectOf_34 rfl (V.iload1 h 36 dX5_projectOf_35 rfl (V.callVf (As := [.int _, .int _]) (st := []) h 39 dX5_projectOf_36 rfl k731 k728 k730 ks81 k6 hd_X5_hasGoal ⟨(Nat.le_of_ble_eq_true rfl), (Nat.le_of_ble_eq_true rfl)⟩ (Nat.le_of_ble_eq_true rfl) mo rfl rfl ⟨Nat.zero_le _, Nat.zero_le _⟩ (c_hasGoal (by assumption)) rfl (V.istore5 h 41 dX5_projectOf_39 rfl rfl (V.iload2 h 42 dX5_projectOf_41 rfl ?_)))))
      refine V.tcase (off := 50) h (0 : Int32) 92 dX5_projectOf_42 (by decide) (by decide +kernel) rfl (fun c42_0 => ?_) (fun c42_0 => ?_)
      · refine V.aload0 h 93 dX5_projectOf_92 rfl (V.iload1 h 94 dX5_projectOf_93 rfl (V.callVf (As := [.int _]) (st := []) h 97 dX5_projectOf_94 rfl k715 k712 k714 ks78 k6 hd_X5_goal ⟨(Nat.le_of_ble_eq_true rfl), (Nat.le_of_ble_eq_true rfl)⟩ (Nat.le_of_ble_eq_true rfl) mo rfl rfl ⟨Nat.zero_le _, Nat.zero_le _⟩ (c_goal hj) rfl ?_))
        refine V.iret h hR dX5_projectOf_97 ?_
        subst c42_0
        exact RP_of (by rw [hq]; rfl) Sc.of_sc.sp
      refine V.tcase (off := 56) h (1 : Int32) 98 dX5_projectOf_42 (by decide) (by decide +kernel) rfl (fun c42_1 => ?_) (fun c42_1 => ?_)
      · refine V.aload0 h 99 dX5_projectOf_98 rfl (V.iload4 h 101 dX5_projectOf_99 rfl (V.callVf (As := [.int _]) (st := []) h 104 dX5_projectOf_101 rfl k660 k657 k659 ks66 k6 hd_X5_amountOf ⟨(Nat.le_of_ble_eq_true rfl), (Nat.le_of_ble_eq_true rfl)⟩ (Nat.le_of_ble_eq_true rfl) mo rfl rfl ⟨Nat.zero_le _, Nat.zero_le _⟩ c_amountOf rfl ?_))
        refine V.iret h hR dX5_projectOf_104 ?_
        subst c42_1
        exact RP_of (by rw [hq]; rfl) Sc.of_sc.sp
      refine V.tcase (off := 63) h (2 : Int32) 105 dX5_projectOf_42 (by decide) (by decide +kernel) rfl (fun c42_2 => ?_) (fun c42_2 => ?_)
      · refine V.aload0 h 106 dX5_projectOf_105 rfl (V.iload4 h 108 dX5_projectOf_106 rfl (V.iload3 h 109 dX5_projectOf_108 rfl (V.iand h 110 dX5_projectOf_109 rfl (V.callVf (As := [.int _]) (st := []) h 113 dX5_projectOf_110 rfl k660 k657 k659 ks66 k6 hd_X5_amountOf ⟨(Nat.le_of_ble_eq_true rfl), (Nat.le_of_ble_eq_true rfl)⟩ (Nat.le_of_ble_eq_true rfl) mo rfl rfl ⟨Nat.zero_le _, Nat.zero_le _⟩ c_amountOf rfl ?_))))
        refine V.iret h hR dX5_projectOf_113 ?_
        subst c42_2
        exact RP_of (by rw [hq]; rfl) Sc.of_sc.sp
      refine V.tcase (off := 72) h (3 : Int32) 114 dX5_projectOf_42 (by decide) (by decide +kernel) rfl (fun c42_3 => ?_) (fun c42_3 => ?_)
      · refine V.iload5 h 116 dX5_projectOf_114 rfl ?_
        refine V.bif_eq h 123 119 dX5_projectOf_116 rfl rfl (fun c116 => ?_) (fun c116 => ?_)
        · refine V.iconst h 124 dX5_projectOf_123 rfl ic1_0 ?_
          refine V.iret h hR dX5_projectOf_124 ?_
          subst c42_3
          refine RP_of ?_ Sc.of_sc.sp
          rw [hq]
          show (bI (hasG (vP s) (mX M) (std (vP s) (mX M) 0) (nI j)), s) = _
          rw [show hasG (vP s) (mX M) (std (vP s) (mX M) 0) (nI j) = _ from c116]; rfl
        · refine V.iconst h 120 dX5_projectOf_119 rfl ic1_1 (V.goto h 124 dX5_projectOf_120 rfl ?_)
          refine V.iret h hR dX5_projectOf_124 ?_
          subst c42_3
          refine RP_of ?_ Sc.of_sc.sp
          rw [hq]
          show (bI (hasG (vP s) (mX M) (std (vP s) (mX M) 0) (nI j)), s) = _
          rw [show hasG (vP s) (mX M) (std (vP s) (mX M) 0) (nI j) = _ from c116]; rfl
      refine V.tcase (off := 83) h (4 : Int32) 125 dX5_projectOf_42 (by decide) (by decide +kernel) rfl (fun c42_4 => ?_) (fun c42_4 => ?_)
      · refine V.aload0 h 126 dX5_projectOf_125 rfl (V.iload1 h 127 dX5_projectOf_126 rfl (V.callVf (As := [.int _]) (st := []) h 130 dX5_projectOf_127 rfl k640 k637 k639 ks61 k6 hd_X5_isClosed ⟨(Nat.le_of_ble_eq_true rfl), (Nat.le_of_ble_eq_true rfl)⟩ (Nat.le_of_ble_eq_true rfl) mo rfl rfl ⟨Nat.zero_le _, Nat.zero_le _⟩ (c_isClosed (by assumption)) rfl ?_))
        refine V.bif_eq h 137 133 dX5_projectOf_130 rfl rfl (fun c130 => ?_) (fun c130 => ?_)
        · refine V.iconst h 138 dX5_projectOf_137 rfl ic1_0 ?_
          refine V.iret h hR dX5_projectOf_138 ?_
          subst c42_4
          refine RP_of ?_ Sc.of_sc.sp
          rw [hq]
          show (bI (decide (s (5 + 2 * j + 1) = 1)), s) = _
          rw [c130]; rfl
        · refine V.iconst h 134 dX5_projectOf_133 rfl ic1_1 (V.goto h 138 dX5_projectOf_134 rfl ?_)
          refine V.iret h hR dX5_projectOf_138 ?_
          subst c42_4
          refine RP_of ?_ Sc.of_sc.sp
          rw [hq]
          show (bI (decide (s (5 + 2 * j + 1) = 1)), s) = _
          rw [c130]; rfl
      refine V.tcase (off := 97) h (5 : Int32) 139 dX5_projectOf_42 (by decide) (by decide +kernel) rfl (fun c42_5 => ?_) (fun c42_5 => ?_)
      · refine V.iload4 h 141 dX5_projectOf_139 rfl ?_
        refine V.iret h hR dX5_projectOf_141 ?_
        subst c42_5
        exact RP_of (by rw [hq]; rfl) Sc.of_sc.sp
      refine V.tcase (off := 100) h (6 : Int32) 142 dX5_projectOf_42 (by decide) (by decide +kernel) rfl (fun c42_6 => ?_) (fun c42_6 => ?_)
      · refine V.iload4 h 144 dX5_projectOf_142 rfl (V.iload3 h 145 dX5_projectOf_144 rfl (V.iand h 146 dX5_projectOf_145 rfl ?_))
        refine V.iret h hR dX5_projectOf_146 ?_
        subst c42_6
        exact RP_of (by rw [hq]; rfl) Sc.of_sc.sp
      refine V.tcase (off := 105) h (7 : Int32) 147 dX5_projectOf_42 (by decide) (by decide +kernel) rfl (fun c42_7 => ?_) (fun c42_7 => ?_)
      · refine V.iload5 h 149 dX5_projectOf_147 rfl ?_
        refine V.bif_eq h 160 152 dX5_projectOf_149 rfl rfl (fun c149 => ?_) (fun c149 => ?_)
        · refine V.bipush h 162 dX5_projectOf_160 rfl ic2_m4 ?_
          refine V.iret h hR dX5_projectOf_162 ?_
          subst c42_7
          first | (refine RP_of ?_ (Sp.tr Sc.of_sc.sp hM1.sp); rw [hq]; show ((if hasG (vP s) (mX M) (std (vP s) (mX M) 0) (nI j) = true then tipL s (mX M) (nI j) 13 0 else -4), s) = _; rw [show hasG (vP s) (mX M) (std (vP s) (mX M) 0) (nI j) = _ from c149]; rfl) | (refine RP_of ?_ Sc.of_sc.sp; rw [hq]; show ((if hasG (vP s) (mX M) (std (vP s) (mX M) 0) (nI j) = true then tipL s (mX M) (nI j) 13 0 else -4), s) = _; rw [show hasG (vP s) (mX M) (std (vP s) (mX M) 0) (nI j) = _ from c149]; rfl)
        · refine V.aload0 h 153 dX5_projectOf_152 rfl (V.iload1 h 154 dX5_projectOf_153 rfl (V.callVe (As := [.int _]) (st := []) h 157 dX5_projectOf_154 rfl k747 k744 k746 ks83 k6 hd_X5_tipOf ⟨(Nat.le_of_ble_eq_true rfl), (Nat.le_of_ble_eq_true rfl)⟩ (Nat.le_of_ble_eq_true rfl) mo rfl rfl ⟨Nat.zero_le _, Nat.zero_le _⟩ (c_X5_tipOf hok hj) rfl (fun w154 hw154 => ?_)))
          obtain ⟨M1, hM1, rfl⟩ := hw154
          refine V.goto h 162 dX5_projectOf_157 rfl ?_
          refine V.iret h hR dX5_projectOf_162 ?_
          subst c42_7
          first | (refine RP_of ?_ (Sp.tr Sc.of_sc.sp hM1.sp); rw [hq]; show ((if hasG (vP s) (mX M) (std (vP s) (mX M) 0) (nI j) = true then tipL s (mX M) (nI j) 13 0 else -4), s) = _; rw [show hasG (vP s) (mX M) (std (vP s) (mX M) 0) (nI j) = _ from c149]; rfl) | (refine RP_of ?_ Sc.of_sc.sp; rw [hq]; show ((if hasG (vP s) (mX M) (std (vP s) (mX M) 0) (nI j) = true then tipL s (mX M) (nI j) 13 0 else -4), s) = _; rw [show hasG (vP s) (mX M) (std (vP s) (mX M) 0) (nI j) = _ from c149]; rfl)
      refine V.tcase (off := 121) h (8 : Int32) 163 dX5_projectOf_42 (by decide) (by decide +kernel) rfl (fun c42_8 => ?_) (fun c42_8 => ?_)
      · refine V.iload5 h 165 dX5_projectOf_163 rfl ?_
        refine V.bif_eq h 176 168 dX5_projectOf_165 rfl rfl (fun c165 => ?_) (fun c165 => ?_)
        · refine V.bipush h 178 dX5_projectOf_176 rfl ic2_m4 ?_
          refine V.iret h hR dX5_projectOf_178 ?_
          subst c42_8
          first | (refine RP_of ?_ (Sp.tr Sc.of_sc.sp hM1.sp); rw [hq]; show ((if hasG (vP s) (mX M) (std (vP s) (mX M) 0) (nI j) = true then ned (vP s) (mX M) (nI j) else -4), s) = _; rw [show hasG (vP s) (mX M) (std (vP s) (mX M) 0) (nI j) = _ from c165]; rfl) | (refine RP_of ?_ Sc.of_sc.sp; rw [hq]; show ((if hasG (vP s) (mX M) (std (vP s) (mX M) 0) (nI j) = true then ned (vP s) (mX M) (nI j) else -4), s) = _; rw [show hasG (vP s) (mX M) (std (vP s) (mX M) 0) (nI j) = _ from c165]; rfl)
        · refine V.aload0 h 169 dX5_projectOf_168 rfl (V.iload1 h 170 dX5_projectOf_169 rfl (V.callVe (As := [.int _]) (st := []) h 173 dX5_projectOf_170 rfl k751 k748 k750 ks84 k6 hd_X5_neededFor ⟨(Nat.le_of_ble_eq_true rfl), (Nat.le_of_ble_eq_true rfl)⟩ (Nat.le_of_ble_eq_true rfl) mo rfl rfl ⟨Nat.zero_le _, Nat.zero_le _⟩ (c_X5_neededFor hok hj) rfl (fun w170 hw170 => ?_)))
          obtain ⟨M1, hM1, rfl⟩ := hw170
          refine V.goto h 178 dX5_projectOf_173 rfl ?_
          refine V.iret h hR dX5_projectOf_178 ?_
          subst c42_8
          first | (refine RP_of ?_ (Sp.tr Sc.of_sc.sp hM1.sp); rw [hq]; show ((if hasG (vP s) (mX M) (std (vP s) (mX M) 0) (nI j) = true then ned (vP s) (mX M) (nI j) else -4), s) = _; rw [show hasG (vP s) (mX M) (std (vP s) (mX M) 0) (nI j) = _ from c165]; rfl) | (refine RP_of ?_ Sc.of_sc.sp; rw [hq]; show ((if hasG (vP s) (mX M) (std (vP s) (mX M) 0) (nI j) = true then ned (vP s) (mX M) (nI j) else -4), s) = _; rw [show hasG (vP s) (mX M) (std (vP s) (mX M) 0) (nI j) = _ from c165]; rfl)
      refine V.tdflt h 179 dX5_projectOf_42 (by have e0 := lv_neT (a := 0) c42_0 (by decide); have e1 := lv_neT (a := 1) c42_1 (by decide); have e2 := lv_neT (a := 2) c42_2 (by decide); have e3 := lv_neT (a := 3) c42_3 (by decide); have e4 := lv_neT (a := 4) c42_4 (by decide); have e5 := lv_neT (a := 5) c42_5 (by decide); have e6 := lv_neT (a := 6) c42_6 (by decide); have e7 := lv_neT (a := 7) c42_7 (by decide); have e8 := lv_neT (a := 8) c42_8 (by decide); omega) rfl ?_
      have h9 : what = 9 := by
        obtain ⟨k, hk, rfl⟩ := rng_nat (n := 9) (by decide) (show rng 0 what (nI 9) = true from c15)
        match k, hk with
        | 0, _ => exact absurd rfl c42_0
        | 1, _ => exact absurd rfl c42_1
        | 2, _ => exact absurd rfl c42_2
        | 3, _ => exact absurd rfl c42_3
        | 4, _ => exact absurd rfl c42_4
        | 5, _ => exact absurd rfl c42_5
        | 6, _ => exact absurd rfl c42_6
        | 7, _ => exact absurd rfl c42_7
        | 8, _ => exact absurd rfl c42_8
        | 9, _ => rfl
      rw [if_neg c42_0, if_neg c42_1, if_neg c42_2, if_neg c42_3, if_neg c42_4, if_neg c42_5, if_neg c42_6, if_neg c42_7, if_neg c42_8] at hq
      refine V.aload0 h 180 dX5_projectOf_179 rfl (V.iload1 h 181 dX5_projectOf_180 rfl (V.callVf (As := [.int _]) (st := []) h 184 dX5_projectOf_181 rfl k640 k637 k639 ks61 k6 hd_X5_isClosed ⟨(Nat.le_of_ble_eq_true rfl), (Nat.le_of_ble_eq_true rfl)⟩ (Nat.le_of_ble_eq_true rfl) mo rfl rfl ⟨Nat.zero_le _, Nat.zero_le _⟩ (c_isClosed (by assumption)) rfl ?_))
      refine V.bif_eq h 192 187 dX5_projectOf_184 rfl rfl (fun c184 => ?_) (fun c184 => ?_)
      · refine V.aload0 h 193 dX5_projectOf_192 rfl (V.iload1 h 194 dX5_projectOf_193 rfl (V.callVe (As := [.int _]) (st := []) h 197 dX5_projectOf_194 rfl k755 k752 k754 ks85 k6 hd_X5_pushOf ⟨(Nat.le_of_ble_eq_true rfl), (Nat.le_of_ble_eq_true rfl)⟩ (Nat.le_of_ble_eq_true rfl) mo rfl rfl ⟨Nat.zero_le _, Nat.zero_le _⟩ (c_X5_pushOf hok hj (hm h9 j hjn rfl (by simpa using c184)) h6) rfl (fun w194 hw194 => ?_)))
        obtain ⟨M1, hM1, rfl⟩ := hw194
        refine V.iret h hR dX5_projectOf_197 ?_
        first | (refine RP_of ?_ (Sp.tr Sc.of_sc.sp hM1); rw [hq, if_neg (by simpa using c184)]; rfl) | (refine RP_of ?_ Sc.of_sc.sp; rw [hq, if_pos (by simpa using c184)])
      · refine V.bipush h 189 dX5_projectOf_187 rfl ic2_m4 (V.goto h 197 dX5_projectOf_189 rfl ?_)
        refine V.iret h hR dX5_projectOf_197 ?_
        first | (refine RP_of ?_ (Sp.tr Sc.of_sc.sp hM1); rw [hq, if_neg (by simpa using c184)]; rfl) | (refine RP_of ?_ Sc.of_sc.sp; rw [hq, if_pos (by simpa using c184)])
    · refine V.iconst h 19 dX5_projectOf_18 rfl ic1_m1 ?_
      refine V.iret h hR dX5_projectOf_19 ?_
      first | exact RP_of (by unfold qPr rng; rw [c5]; rfl) Sp.rf | exact RP_of (by unfold qPr; rw [show rng 0 what 9 = false from c15, Bool.and_false]; rfl) Sp.rf
def qPe (s : Nat → Int32) (x : Ex) (v what : Int32) : Int32 :=
  if (rng 0 v (s 1 - 1) && rng 0 what 5) = true then
    (if what = 0 then s (13 + 2 * v.toNatClampNeg)
     else if what = 1 then amt (vP s) (ofP (vP s) v &&& vP s 6 0)
     else if what = 2 then amt (vP s) (ofP (vP s) v &&& vP s 6 0 &&& std (vP s) x 0)
     else if what = 3 then s (13 + 2 * v.toNatClampNeg + 1)
     else if what = 4 then ofP (vP s) v
     else cnt (std (vP s) x 0 &&& (std (vP s) x (ofP (vP s) v &&& vP s 6 0) ^^^ (-1)) &&& (ofP (vP s) v ^^^ (-1))))
  else -1
theorem c_X5_personOf {M : Pl} {b nq : Nat} {s : Nat → Int32} {v what : Int32} {w : Wd} (hok : sOK s) (hn : s 1 = nI nq) (h8 : nq ≤ 8) : K_X5_personOf [.ref b, .int v, .int what] (mz w b M s) (RM (qPe s (mX M) v what, s) w b M) := by
  refine Con.mk [some (.ref b), some (.int v), some (.int what), none, none, none] (by decide) rfl rfl (Nat.le_of_ble_eq_true rfl) (fun X h hR hnm => ?_)
  refine V.aload0 h 1 dX5_personOf_0 rfl (V.iload1 h 2 dX5_personOf_1 rfl (V.callVf (As := [.int _]) (st := []) h 5 dX5_personOf_2 rfl k628 k625 k627 ks58 k6 hd_X5_isPerson ⟨(Nat.le_of_ble_eq_true rfl), (Nat.le_of_ble_eq_true rfl)⟩ (Nat.le_of_ble_eq_true rfl) mo rfl rfl ⟨Nat.zero_le _, Nat.zero_le _⟩ c_isPerson rfl ?_))
  refine V.bif_eq h 17 8 dX5_personOf_5 rfl rfl (fun c5 => ?_) (fun c5 => ?_)
  · refine V.iconst h 18 dX5_personOf_17 rfl ic1_m1 ?_
    refine V.iret h hR dX5_personOf_18 ?_
    first | exact RM_of (by unfold qPe rng; rw [c5]; rfl) Sc.rf | exact RM_of (by unfold qPe; rw [show rng 0 what 5 = false from c14, Bool.and_false]; rfl) Sc.rf
  · refine V.iload2 h 9 dX5_personOf_8 rfl (V.iconst h 10 dX5_personOf_9 rfl ic1_0 (V.iconst h 11 dX5_personOf_10 rfl ic1_5 (V.callSf (As := [.int _, .int _, .int _]) (st := []) h 14 dX5_personOf_11 rfl k604 k602 k603 k6 hd_X5_in ⟨(Nat.le_of_ble_eq_true rfl), (Nat.le_of_ble_eq_true rfl)⟩ (Nat.le_of_ble_eq_true rfl) ⟨Nat.zero_le _, Nat.zero_le _⟩ c_X5_in rfl ?_)))
    refine V.bif_ne h 19 17 dX5_personOf_14 rfl rfl (fun c14 => ?_) (fun c14 => ?_)
    · obtain ⟨j, hjn, rfl⟩ := rng_pred (by omega) (show rng 0 v (nI nq - 1) = true by rw [← hn]; exact c5)
      have hj : j < 8 := by omega
      have hq : qPe s (mX M) (nI j) what = (if what = 0 then s (13 + 2 * j) else if what = 1 then amt (vP s) (ofP (vP s) (nI j) &&& vP s 6 0) else if what = 2 then amt (vP s) (ofP (vP s) (nI j) &&& vP s 6 0 &&& std (vP s) (mX M) 0) else if what = 3 then s (13 + 2 * j + 1) else if what = 4 then ofP (vP s) (nI j) else cnt (std (vP s) (mX M) 0 &&& (std (vP s) (mX M) (ofP (vP s) (nI j) &&& vP s 6 0) ^^^ (-1)) &&& (ofP (vP s) (nI j) ^^^ (-1)))) := by
        unfold qPe
        rw [show rng 0 (nI j) (s 1 - 1) = true from c5, show rng 0 what 5 = true from c14, nI_tn (by omega)]; rfl
      refine V.aload0 h 20 dX5_personOf_19 rfl (V.iconst h 21 dX5_personOf_20 rfl ic1_0 (V.callVf (As := [.int _]) (st := []) h 24 dX5_personOf_21 rfl k683 k680 k682 ks70 k6 hd_X5_stands ⟨(Nat.le_of_ble_eq_true rfl), (Nat.le_of_ble_eq_true rfl)⟩ (Nat.le_of_ble_eq_true rfl) mo rfl rfl ⟨Nat.zero_le _, Nat.zero_le _⟩ (c_stands hok) rfl (V.istore3 h 25 dX5_personOf_24 rfl rfl (V.aload0 h 26 dX5_personOf_25 rfl (V.iload1 h 27 dX5_personOf_26 rfl (V.callVf (As := [.int _]) (st := []) h 30 dX5_personOf_27 rfl k644 k641 k643 ks62 k6 hd_X5_ofPerson ⟨(Nat.le_of_ble_eq_true rfl), (Nat.le_of_ble_eq_true rfl)⟩ (Nat.le_of_ble_eq_true rfl) mo rfl rfl ⟨Nat.zero_le _, Nat.zero_le _⟩ c_ofPerson rfl (V.istore4 h 32 dX5_personOf_30 rfl rfl ?_)))))))
      refine V.iload4 h 34 dX5_personOf_32 rfl (V.aload0 h 35 dX5_personOf_34 rfl (V.callVf (As := []) (st := [.int _]) h 38 dX5_personOf_35 rfl k652 k649 k651 ks64 k6 hd_X5_open ⟨(Nat.le_of_ble_eq_true rfl), (Nat.le_of_ble_eq_true rfl)⟩ (Nat.le_of_ble_eq_true rfl) mo rfl rfl ⟨Nat.zero_le _, Nat.zero_le _⟩ c_open rfl (V.iand h 39 dX5_personOf_38 rfl (V.istore5 h 41 dX5_personOf_39 rfl rfl (V.iload2 h 42 dX5_personOf_41 rfl ?_)))))
      refine V.tcase (off := 34) h (0 : Int32) 76 dX5_personOf_42 (by decide) (by decide +kernel) rfl (fun c42_0 => ?_) (fun c42_0 => ?_)
      · refine V.aload0 h 77 dX5_personOf_76 rfl (V.gX5 h 0 80 dX5_personOf_77 rfl rfl k544 mo rfl (V.bipush h 82 dX5_personOf_80 rfl ic2_13 (V.iconst h 83 dX5_personOf_82 rfl ic1_2 (V.iload1 h 84 dX5_personOf_83 rfl (V.imul h 85 dX5_personOf_84 rfl (V.iadd h 86 dX5_personOf_85 rfl ?_))))))
        rw [show (13 : Int32) + 2 * nI j = nI (13 + 2 * j) by rw [lit, lit, pk_mul, nI_add]]
        refine V.ialdN h 87 dX5_personOf_86 rfl za1 (by omega) (by decide) ?_
        refine V.iret h hR dX5_personOf_87 ?_
        subst c42_0
        exact RM_of (by rw [hq]; rfl) Sc.of_sc
      refine V.tcase (off := 46) h (1 : Int32) 88 dX5_personOf_42 (by decide) (by decide +kernel) rfl (fun c42_1 => ?_) (fun c42_1 => ?_)
      · refine V.aload0 h 89 dX5_personOf_88 rfl (V.iload5 h 91 dX5_personOf_89 rfl (V.callVf (As := [.int _]) (st := []) h 94 dX5_personOf_91 rfl k660 k657 k659 ks66 k6 hd_X5_amountOf ⟨(Nat.le_of_ble_eq_true rfl), (Nat.le_of_ble_eq_true rfl)⟩ (Nat.le_of_ble_eq_true rfl) mo rfl rfl ⟨Nat.zero_le _, Nat.zero_le _⟩ c_amountOf rfl ?_))
        refine V.iret h hR dX5_personOf_94 ?_
        subst c42_1
        exact RM_of (by rw [hq]; rfl) Sc.of_sc
      refine V.tcase (off := 53) h (2 : Int32) 95 dX5_personOf_42 (by decide) (by decide +kernel) rfl (fun c42_2 => ?_) (fun c42_2 => ?_)
      · refine V.aload0 h 96 dX5_personOf_95 rfl (V.iload5 h 98 dX5_personOf_96 rfl (V.iload3 h 99 dX5_personOf_98 rfl (V.iand h 100 dX5_personOf_99 rfl (V.callVf (As := [.int _]) (st := []) h 103 dX5_personOf_100 rfl k660 k657 k659 ks66 k6 hd_X5_amountOf ⟨(Nat.le_of_ble_eq_true rfl), (Nat.le_of_ble_eq_true rfl)⟩ (Nat.le_of_ble_eq_true rfl) mo rfl rfl ⟨Nat.zero_le _, Nat.zero_le _⟩ c_amountOf rfl ?_))))
        refine V.iret h hR dX5_personOf_103 ?_
        subst c42_2
        exact RM_of (by rw [hq]; rfl) Sc.of_sc
      refine V.tcase (off := 62) h (3 : Int32) 104 dX5_personOf_42 (by decide) (by decide +kernel) rfl (fun c42_3 => ?_) (fun c42_3 => ?_)
      · refine V.aload0 h 105 dX5_personOf_104 rfl (V.gX5 h 0 108 dX5_personOf_105 rfl rfl k544 mo rfl (V.bipush h 110 dX5_personOf_108 rfl ic2_13 (V.iconst h 111 dX5_personOf_110 rfl ic1_2 (V.iload1 h 112 dX5_personOf_111 rfl (V.imul h 113 dX5_personOf_112 rfl (V.iadd h 114 dX5_personOf_113 rfl (V.iconst h 115 dX5_personOf_114 rfl ic1_1 ?_)))))))
        refine V.iadd h 116 dX5_personOf_115 rfl ?_
        rw [show (13 : Int32) + 2 * nI j + 1 = nI (13 + 2 * j + 1) by rw [lit, lit, lit, pk_mul, nI_add, nI_add]]
        refine V.ialdN h 117 dX5_personOf_116 rfl za1 (by omega) (by decide) ?_
        refine V.iret h hR dX5_personOf_117 ?_
        subst c42_3
        exact RM_of (by rw [hq]; rfl) Sc.of_sc
      refine V.tcase (off := 76) h (4 : Int32) 118 dX5_personOf_42 (by decide) (by decide +kernel) rfl (fun c42_4 => ?_) (fun c42_4 => ?_)
      · refine V.iload4 h 120 dX5_personOf_118 rfl ?_
        refine V.iret h hR dX5_personOf_120 ?_
        subst c42_4
        exact RM_of (by rw [hq]; rfl) Sc.of_sc
      refine V.tdflt h 121 dX5_personOf_42 (by have e0 := lv_neT (a := 0) c42_0 (by decide); have e1 := lv_neT (a := 1) c42_1 (by decide); have e2 := lv_neT (a := 2) c42_2 (by decide); have e3 := lv_neT (a := 3) c42_3 (by decide); have e4 := lv_neT (a := 4) c42_4 (by decide); omega) rfl ?_
      refine V.iload3 h 122 dX5_personOf_121 rfl (V.aload0 h 123 dX5_personOf_122 rfl (V.iload5 h 125 dX5_personOf_123 rfl (V.callVf (As := [.int _]) (st := [.int _]) h 128 dX5_personOf_125 rfl k683 k680 k682 ks70 k6 hd_X5_stands ⟨(Nat.le_of_ble_eq_true rfl), (Nat.le_of_ble_eq_true rfl)⟩ (Nat.le_of_ble_eq_true rfl) mo rfl rfl ⟨Nat.zero_le _, Nat.zero_le _⟩ (c_stands hok) rfl (V.iconst h 129 dX5_personOf_128 rfl ic1_m1 (V.ixor h 130 dX5_personOf_129 rfl (V.iand h 131 dX5_personOf_130 rfl (V.iload4 h 133 dX5_personOf_131 rfl ?_)))))))
      refine V.iconst h 134 dX5_personOf_133 rfl ic1_m1 (V.ixor h 135 dX5_personOf_134 rfl (V.iand h 136 dX5_personOf_135 rfl (V.callSf (As := [.int _]) (st := []) h 139 dX5_personOf_136 rfl k762 k760 k761 k6 hd_X5_many ⟨(Nat.le_of_ble_eq_true rfl), (Nat.le_of_ble_eq_true rfl)⟩ (Nat.le_of_ble_eq_true rfl) ⟨Nat.zero_le _, Nat.zero_le _⟩ c_X5_many rfl ?_)))
      refine V.iret h hR dX5_personOf_139 ?_
      refine RM_of ?_ (Sc.tr Sc.of_sc Sc.of_sc)
      rw [hq, if_neg c42_0, if_neg c42_1, if_neg c42_2, if_neg c42_3, if_neg c42_4]; rfl
    · refine V.iconst h 18 dX5_personOf_17 rfl ic1_m1 ?_
      refine V.iret h hR dX5_personOf_18 ?_
      first | exact RM_of (by unfold qPe rng; rw [c5]; rfl) Sc.rf | exact RM_of (by unfold qPe; rw [show rng 0 what 5 = false from c14, Bool.and_false]; rfl) Sc.rf
def isS (s : Nat → Int32) (S : Int32) : Bool := decide (S &&& (live (vP s) ^^^ (-1)) = 0)
theorem c_X5_isSet {M : Pl} {b : Nat} {s : Nat → Int32} {S : Int32} {w : Wd} : K_X5_isSet [.ref b, .int S] (mz w b M s) (RI (bI (isS s S)) (mz w b M s)) := by
  refine Con.mk [some (.ref b), some (.int S)] (by decide) rfl rfl (Nat.le_of_ble_eq_true rfl) (fun X h hR hnm => ?_)
  refine V.iload1 h 1 dX5_isSet_0 rfl (V.aload0 h 2 dX5_isSet_1 rfl (V.iconst h 3 dX5_isSet_2 rfl ic1_1 (V.iconst h 4 dX5_isSet_3 rfl ic1_1 (V.callVf (As := [.int _, .int _]) (st := [.int _]) h 7 dX5_isSet_4 rfl k656 k653 k655 ks65 k6 hd_X5_pledges ⟨(Nat.le_of_ble_eq_true rfl), (Nat.le_of_ble_eq_true rfl)⟩ (Nat.le_of_ble_eq_true rfl) mo rfl rfl ⟨Nat.zero_le _, Nat.zero_le _⟩ c_tipAll rfl (V.iconst h 8 dX5_isSet_7 rfl ic1_m1 (V.ixor h 9 dX5_isSet_8 rfl (V.iand h 10 dX5_isSet_9 rfl ?_)))))))
  refine V.if_ne h 17 13 dX5_isSet_10 rfl rfl (fun c10 => ?_) (fun c10 => ?_)
  · refine V.iconst h 18 dX5_isSet_17 rfl ic1_0 ?_
    refine V.zret h hR (by first | exact bI_z _ | rfl) dX5_isSet_18 ?_
    first | exact RI_t (decide_eq_true (by simpa using c10)) | exact RI_f (decide_eq_false (by simpa using c10))
  · refine V.iconst h 14 dX5_isSet_13 rfl ic1_1 (V.goto h 18 dX5_isSet_14 rfl ?_)
    refine V.zret h hR (by first | exact bI_z _ | rfl) dX5_isSet_18 ?_
    first | exact RI_t (decide_eq_true (by simpa using c10)) | exact RI_f (decide_eq_false (by simpa using c10))
def qSt (s : Nat → Int32) (x : Ex) (S : Int32) : Int32 := if isS s S = true then (if S &&& vP s 7 0 = 0 then std (vP s) x S else -2) else -1
theorem c_X5_standing {M : Pl} {b : Nat} {s : Nat → Int32} {S : Int32} {w : Wd} (hok : sOK s) : K_X5_standing [.ref b, .int S] (mz w b M s) (RM (qSt s (mX M) S, s) w b M) := by
  refine Con.mk [some (.ref b), some (.int S)] (by decide) rfl rfl (Nat.le_of_ble_eq_true rfl) (fun X h hR hnm => ?_)
  refine V.aload0 h 1 dX5_standing_0 rfl (V.iload1 h 2 dX5_standing_1 rfl (V.callVf (As := [.int _]) (st := []) h 5 dX5_standing_2 rfl k770 k767 k769 ks86 k6 hd_X5_isSet ⟨(Nat.le_of_ble_eq_true rfl), (Nat.le_of_ble_eq_true rfl)⟩ (Nat.le_of_ble_eq_true rfl) mo rfl rfl ⟨Nat.zero_le _, Nat.zero_le _⟩ c_X5_isSet rfl ?_))
  refine V.bif_ne h 10 8 dX5_standing_5 rfl rfl (fun c5 => ?_) (fun c5 => ?_)
  · refine V.iload1 h 11 dX5_standing_10 rfl (V.aload0 h 12 dX5_standing_11 rfl (V.callVf (As := []) (st := [.int _]) h 15 dX5_standing_12 rfl k687 k684 k686 ks71 k6 hd_X5_called ⟨(Nat.le_of_ble_eq_true rfl), (Nat.le_of_ble_eq_true rfl)⟩ (Nat.le_of_ble_eq_true rfl) mo rfl rfl ⟨Nat.zero_le _, Nat.zero_le _⟩ c_called rfl (V.iand h 16 dX5_standing_15 rfl ?_)))
    refine V.if_eq h 24 19 dX5_standing_16 rfl rfl (fun c16 => ?_) (fun c16 => ?_)
    · refine V.aload0 h 25 dX5_standing_24 rfl (V.iload1 h 26 dX5_standing_25 rfl (V.callVf (As := [.int _]) (st := []) h 29 dX5_standing_26 rfl k683 k680 k682 ks70 k6 hd_X5_stands ⟨(Nat.le_of_ble_eq_true rfl), (Nat.le_of_ble_eq_true rfl)⟩ (Nat.le_of_ble_eq_true rfl) mo rfl rfl ⟨Nat.zero_le _, Nat.zero_le _⟩ (c_stands hok) rfl ?_))
      refine V.iret h hR dX5_standing_29 ?_
      first | exact RM_of (by unfold qSt; rw [c5, if_pos rfl, if_pos c16]) Sc.of_sc | exact RM_of (by unfold qSt; rw [c5, if_pos rfl, if_neg c16]) Sc.rf
    · refine V.bipush h 21 dX5_standing_19 rfl ic2_m2 (V.goto h 29 dX5_standing_21 rfl ?_)
      refine V.iret h hR dX5_standing_29 ?_
      first | exact RM_of (by unfold qSt; rw [c5, if_pos rfl, if_pos c16]) Sc.of_sc | exact RM_of (by unfold qSt; rw [c5, if_pos rfl, if_neg c16]) Sc.rf
  · refine V.iconst h 9 dX5_standing_8 rfl ic1_m1 ?_
    refine V.iret h hR dX5_standing_9 ?_
    exact RM_of (by unfold qSt; rw [c5]; rfl) Sc.rf
def qSe (s : Nat → Int32) (x : Ex) (S what : Int32) : Int32 :=
  if (isS s S && rng 0 what 2) = true then
    (if S &&& vP s 7 0 = 0 then (if what = 0 then bI (decide (fal (vP s) x S (vP s 7 0) = 0)) else if what = 1 then fal (vP s) x S (vP s 7 0) else grt (vP s) x S (vP s 7 0)) else -2)
  else -1
theorem c_fallingOf {w : Wd} {b : Nat} {M : Pl} {s : Nat → Int32} {S C : Int32} (hok : ∀ k, k < 12 → Bt S k = true → kOK (vP s) k) : K_X5_fallingOf [.ref b, .int S, .int C] (mz w b M s) (RI (fal (vP s) (mX M) S C) (mz w b M s)) := c_X5_fallingOf (M := ua M 0 s) hok
theorem isS_open {s : Nat → Int32} {S : Int32} (h : isS s S = true) (h2 : S &&& vP s 7 0 = 0) : ∀ k, k < 12 → Bt S k = true → Bt (vP s 6 0) k = true := by
  intro k hk hb
  have h1 : Bt (S &&& (live (vP s) ^^^ (-1))) k = false := by rw [show S &&& (live (vP s) ^^^ (-1)) = 0 from of_decide_eq_true h, bt_0]
  have h3 : Bt (S &&& vP s 7 0) k = false := by rw [h2, bt_0]
  rw [bt_and, bt_not _ (by omega), hb, live_bt s hk] at h1
  rw [bt_and, hb, called_bt s hk] at h3
  rw [open_bt s hk]
  cases ht : sThere s k <;> cases hc : sCalled s k <;> simp_all
theorem c_X5_setOf {M : Pl} {b : Nat} {s : Nat → Int32} {S what : Int32} {w : Wd} (hok : sOK s) : K_X5_setOf [.ref b, .int S, .int what] (mz w b M s) (RM (qSe s (mX M) S what, s) w b M) := by
  refine Con.mk [some (.ref b), some (.int S), some (.int what), none, none] (by decide) rfl rfl (Nat.le_of_ble_eq_true rfl) (fun X h hR hnm => ?_)
  refine V.aload0 h 1 dX5_setOf_0 rfl (V.iload1 h 2 dX5_setOf_1 rfl (V.callVf (As := [.int _]) (st := []) h 5 dX5_setOf_2 rfl k770 k767 k769 ks86 k6 hd_X5_isSet ⟨(Nat.le_of_ble_eq_true rfl), (Nat.le_of_ble_eq_true rfl)⟩ (Nat.le_of_ble_eq_true rfl) mo rfl rfl ⟨Nat.zero_le _, Nat.zero_le _⟩ c_X5_isSet rfl ?_))
  refine V.bif_eq h 17 8 dX5_setOf_5 rfl rfl (fun c5 => ?_) (fun c5 => ?_)
  · refine V.iconst h 18 dX5_setOf_17 rfl ic1_m1 ?_
    refine V.iret h hR dX5_setOf_18 ?_
    first | exact RM_of (by unfold qSe; rw [c5]; rfl) Sc.rf | exact RM_of (by unfold qSe; rw [show rng 0 what 2 = false from c14, Bool.and_false]; rfl) Sc.rf
  · refine V.iload2 h 9 dX5_setOf_8 rfl (V.iconst h 10 dX5_setOf_9 rfl ic1_0 (V.iconst h 11 dX5_setOf_10 rfl ic1_2 (V.callSf (As := [.int _, .int _, .int _]) (st := []) h 14 dX5_setOf_11 rfl k604 k602 k603 k6 hd_X5_in ⟨(Nat.le_of_ble_eq_true rfl), (Nat.le_of_ble_eq_true rfl)⟩ (Nat.le_of_ble_eq_true rfl) ⟨Nat.zero_le _, Nat.zero_le _⟩ c_X5_in rfl ?_)))
    refine V.bif_ne h 19 17 dX5_setOf_14 rfl rfl (fun c14 => ?_) (fun c14 => ?_)
    · have hq : qSe s (mX M) S what = (if S &&& vP s 7 0 = 0 then (if what = 0 then bI (decide (fal (vP s) (mX M) S (vP s 7 0) = 0)) else if what = 1 then fal (vP s) (mX M) S (vP s 7 0) else grt (vP s) (mX M) S (vP s 7 0)) else -2) := by
        unfold qSe
        rw [c5, show rng 0 what 2 = true from c14]; rfl
      refine V.aload0 h 20 dX5_setOf_19 rfl (V.callVf (As := []) (st := []) h 23 dX5_setOf_20 rfl k687 k684 k686 ks71 k6 hd_X5_called ⟨(Nat.le_of_ble_eq_true rfl), (Nat.le_of_ble_eq_true rfl)⟩ (Nat.le_of_ble_eq_true rfl) mo rfl rfl ⟨Nat.zero_le _, Nat.zero_le _⟩ c_called rfl (V.istore3 h 24 dX5_setOf_23 rfl rfl (V.iload1 h 25 dX5_setOf_24 rfl (V.iload3 h 26 dX5_setOf_25 rfl (V.iand h 27 dX5_setOf_26 rfl ?_)))))
      refine V.if_eq h 33 30 dX5_setOf_27 rfl rfl (fun c27 => ?_) (fun c27 => ?_)
      · have hokS : ∀ k, k < 12 → Bt S k = true → kOK (vP s) k := fun k hk h => hok k hk (isS_open c5 c27 k hk h)
        rw [if_pos c27] at hq
        refine V.aload0 h 34 dX5_setOf_33 rfl (V.iload1 h 35 dX5_setOf_34 rfl (V.iload3 h 36 dX5_setOf_35 rfl (V.callVf (As := [.int _, .int _]) (st := []) h 39 dX5_setOf_36 rfl k695 k692 k694 ks73 k6 hd_X5_fallingOf ⟨(Nat.le_of_ble_eq_true rfl), (Nat.le_of_ble_eq_true rfl)⟩ (Nat.le_of_ble_eq_true rfl) mo rfl rfl ⟨Nat.zero_le _, Nat.zero_le _⟩ (c_fallingOf hokS) rfl (V.istore4 h 41 dX5_setOf_39 rfl rfl (V.iload2 h 42 dX5_setOf_41 rfl ?_)))))
        refine V.if_ne h 58 45 dX5_setOf_42 rfl rfl (fun c42 => ?_) (fun c42 => ?_)
        · refine V.iload2 h 59 dX5_setOf_58 rfl (V.iconst h 60 dX5_setOf_59 rfl ic1_1 ?_)
          refine V.icmp_ne h 68 63 dX5_setOf_60 rfl rfl (fun c60 => ?_) (fun c60 => ?_)
          · refine V.aload0 h 69 dX5_setOf_68 rfl (V.iload1 h 70 dX5_setOf_69 rfl (V.iload3 h 71 dX5_setOf_70 rfl (V.callVf (As := [.int _, .int _]) (st := []) h 74 dX5_setOf_71 rfl k691 k688 k690 ks72 k6 hd_X5_greatest ⟨(Nat.le_of_ble_eq_true rfl), (Nat.le_of_ble_eq_true rfl)⟩ (Nat.le_of_ble_eq_true rfl) mo rfl rfl ⟨Nat.zero_le _, Nat.zero_le _⟩ (c_greatest hokS) rfl ?_)))
            refine V.iret h hR dX5_setOf_74 ?_
            first | exact RM_of (by rw [hq, if_pos (by simpa using c42), decide_eq_true (by simpa using c47)]; rfl) Sc.rf | exact RM_of (by rw [hq, if_pos (by simpa using c42), decide_eq_false (by simpa using c47)]; rfl) Sc.rf | exact RM_of (by rw [hq, if_neg (by simpa using c42), if_pos (by simpa using c60)]) Sc.rf | exact RM_of (by rw [hq, if_neg (by simpa using c42), if_neg (by simpa using c60)]) Sc.of_sc
          · refine V.iload4 h 65 dX5_setOf_63 rfl (V.goto h 74 dX5_setOf_65 rfl ?_)
            refine V.iret h hR dX5_setOf_74 ?_
            first | exact RM_of (by rw [hq, if_pos (by simpa using c42), decide_eq_true (by simpa using c47)]; rfl) Sc.rf | exact RM_of (by rw [hq, if_pos (by simpa using c42), decide_eq_false (by simpa using c47)]; rfl) Sc.rf | exact RM_of (by rw [hq, if_neg (by simpa using c42), if_pos (by simpa using c60)]) Sc.rf | exact RM_of (by rw [hq, if_neg (by simpa using c42), if_neg (by simpa using c60)]) Sc.of_sc
        · refine V.iload4 h 47 dX5_setOf_45 rfl ?_
          refine V.if_ne h 54 50 dX5_setOf_47 rfl rfl (fun c47 => ?_) (fun c47 => ?_)
          · refine V.iconst h 55 dX5_setOf_54 rfl ic1_0 (V.goto h 74 dX5_setOf_55 rfl ?_)
            refine V.iret h hR dX5_setOf_74 ?_
            first | exact RM_of (by rw [hq, if_pos (by simpa using c42), decide_eq_true (by simpa using c47)]; rfl) Sc.rf | exact RM_of (by rw [hq, if_pos (by simpa using c42), decide_eq_false (by simpa using c47)]; rfl) Sc.rf | exact RM_of (by rw [hq, if_neg (by simpa using c42), if_pos (by simpa using c60)]) Sc.rf | exact RM_of (by rw [hq, if_neg (by simpa using c42), if_neg (by simpa using c60)]) Sc.of_sc
          · refine V.iconst h 51 dX5_setOf_50 rfl ic1_1 (V.goto h 74 dX5_setOf_51 rfl ?_)
            refine V.iret h hR dX5_setOf_74 ?_
            first | exact RM_of (by rw [hq, if_pos (by simpa using c42), decide_eq_true (by simpa using c47)]; rfl) Sc.rf | exact RM_of (by rw [hq, if_pos (by simpa using c42), decide_eq_false (by simpa using c47)]; rfl) Sc.rf | exact RM_of (by rw [hq, if_neg (by simpa using c42), if_pos (by simpa using c60)]) Sc.rf | exact RM_of (by rw [hq, if_neg (by simpa using c42), if_neg (by simpa using c60)]) Sc.of_sc
      · refine V.bipush h 32 dX5_setOf_30 rfl ic2_m2 ?_
        refine V.iret h hR dX5_setOf_32 ?_
        exact RM_of (by rw [hq, if_neg c27]) Sc.rf
    · refine V.iconst h 18 dX5_setOf_17 rfl ic1_m1 ?_
      refine V.iret h hR dX5_setOf_18 ?_
      first | exact RM_of (by unfold qSe; rw [c5]; rfl) Sc.rf | exact RM_of (by unfold qSe; rw [show rng 0 what 2 = false from c14, Bool.and_false]; rfl) Sc.rf
