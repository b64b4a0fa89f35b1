/-! the reference: what is told of pledges and projects -/
theorem wvm_fell {P : Pl} {x : Ex} {S C : Int32} {old old' : Nat → Int32} {k : Nat} (hk : k < 12) (hS : Bt S k = true) : ∀ n, Bt (gs P x C n S) k = false → wvm P x S C old n k = wvm P x S C old' n k
  | 0, h => by rw [show gs P x C 0 S = S from rfl, hS] at h; cases h
  | n + 1, h => by
    rw [wvm, wvm]
    dsimp only
    cases hf : Bt (fal P x (gs P x C n S) C) k
    · rw [Bool.and_false, if_neg (by decide), if_neg (by decide)]
      rw [gs_s, bt_and, bt_not _ (by omega), hf] at h
      exact wvm_fell hk hS n (by simpa using h)
    · rw [decide_eq_true hk]; rfl
/-- the wave in which a pledge that does not stand falls -/
def wav (P : Pl) (x : Ex) (k : Nat) : Int32 := wvP P x 0 (fun _ => 0) k
theorem wav_of {s : Nat → Int32} {x : Ex} {k : Nat} {old : Nat → Int32} (hk : k < 12) (ht : sThere s k = true) (hs : Bt (std (vP s) x 0) k = false) : wvP (vP s) x 0 old k = wav (vP s) x k := by
  unfold std at hs
  rw [bt_or, called_bt s hk, ht, Bool.true_and, Bool.or_eq_false_iff] at hs
  have ho : Bt (vP s 6 0 &&& (0 ^^^ (-1))) k = true := by rw [and_not0, open_bt s hk, ht, hs.2]; rfl
  exact wvm_fell hk ho 12 hs.1
def qPl (s : Nat → Int32) (x : Ex) (v what : Int32) : Int32 :=
  if (isPl s v && rng 0 what 9) = true then
    (if rng 0 what 5 = true then sF s v.toNatClampNeg (what.toNatClampNeg + 1)
     else if what = 6 then bI (Bt (std (vP s) x 0) v.toNatClampNeg)
     else if what = 7 then (if Bt (std (vP s) x 0) v.toNatClampNeg = true then -4 else wav (vP s) x v.toNatClampNeg)
     else if what = 8 then sF s v.toNatClampNeg 7
     else if sCalled s v.toNatClampNeg = true then -2
     else std (vP s) x 0 &&& (std (vP s) x (pw v) ^^^ (-1)) &&& (pw v ^^^ (-1)))
  else -1
theorem c_X5_pledgeOf {M : Pl} {b : Nat} {s : Nat → Int32} {v what : Int32} {w : Wd} (hok : sOK s) : K_X5_pledgeOf [.ref b, .int v, .int what] (mz w b M s) (RM (qPl s (mX M) v what, s) w b M) := by
  refine Con.mk [some (.ref b), some (.int v), some (.int what), none, none] (by decide) rfl rfl (Nat.le_of_ble_eq_true rfl) (fun X h hR hnm => ?_)
  refine V.aload0 h 1 dX5_pledgeOf_0 rfl (V.iload1 h 2 dX5_pledgeOf_1 rfl (V.callVf (As := [.int _]) (st := []) h 5 dX5_pledgeOf_2 rfl k679 k676 k678 ks69 k6 hd_X5_isPledge ⟨(Nat.le_of_ble_eq_true rfl), (Nat.le_of_ble_eq_true rfl)⟩ (Nat.le_of_ble_eq_true rfl) mo rfl rfl ⟨Nat.zero_le _, Nat.zero_le _⟩ c_X5_isPledge rfl ?_))
  refine V.bif_eq h 18 8 dX5_pledgeOf_5 rfl rfl (fun c5 => ?_) (fun c5 => ?_)
  · refine V.iconst h 19 dX5_pledgeOf_18 rfl ic1_m1 ?_
    refine V.iret h hR dX5_pledgeOf_19 ?_
    first | exact RM_of (by unfold qPl; rw [c5]; rfl) Sc.rf | exact RM_of (by unfold qPl; rw [show rng 0 what 9 = false from c15, Bool.and_false]; rfl) Sc.rf
  · refine V.iload2 h 9 dX5_pledgeOf_8 rfl (V.iconst h 10 dX5_pledgeOf_9 rfl ic1_0 (V.bipush h 12 dX5_pledgeOf_10 rfl ic2_9 (V.callSf (As := [.int _, .int _, .int _]) (st := []) h 15 dX5_pledgeOf_12 rfl k604 k602 k603 k6 hd_X5_in ⟨(Nat.le_of_ble_eq_true rfl), (Nat.le_of_ble_eq_true rfl)⟩ (Nat.le_of_ble_eq_true rfl) ⟨Nat.zero_le _, Nat.zero_le _⟩ c_X5_in rfl ?_)))
    refine V.bif_ne h 20 18 dX5_pledgeOf_15 rfl rfl (fun c15 => ?_) (fun c15 => ?_)
    · obtain ⟨k, hk, rfl, ht⟩ := isPl_k c5
      have hq : qPl s (mX M) (nI k) what = (if rng 0 what 5 = true then sF s k (what.toNatClampNeg + 1) else if what = 6 then bI (Bt (std (vP s) (mX M) 0) k) else if what = 7 then (if Bt (std (vP s) (mX M) 0) k = true then -4 else wav (vP s) (mX M) k) else if what = 8 then sF s k 7 else if sCalled s k = true then -2 else std (vP s) (mX M) 0 &&& (std (vP s) (mX M) (pw (nI k)) ^^^ (-1)) &&& (pw (nI k) ^^^ (-1))) := by
        unfold qPl
        rw [c5, show rng 0 what 9 = true from c15, nI_tn (by omega)]; rfl
      refine V.aload0 h 21 dX5_pledgeOf_20 rfl (V.iconst h 22 dX5_pledgeOf_21 rfl ic1_0 (V.callVf (As := [.int _]) (st := []) h 25 dX5_pledgeOf_22 rfl k683 k680 k682 ks70 k6 hd_X5_stands ⟨(Nat.le_of_ble_eq_true rfl), (Nat.le_of_ble_eq_true rfl)⟩ (Nat.le_of_ble_eq_true rfl) mo rfl rfl ⟨Nat.zero_le _, Nat.zero_le _⟩ (c_stands hok) rfl (V.istore3 h 26 dX5_pledgeOf_25 rfl rfl (V.iload3 h 27 dX5_pledgeOf_26 rfl (V.iload1 h 28 dX5_pledgeOf_27 rfl (V.callSf (As := [.int _, .int _]) (st := []) h 31 dX5_pledgeOf_28 rfl k663 k661 k662 k6 hd_X5_has ⟨(Nat.le_of_ble_eq_true rfl), (Nat.le_of_ble_eq_true rfl)⟩ (Nat.le_of_ble_eq_true rfl) ⟨Nat.zero_le _, Nat.zero_le _⟩ (c_X5_has (by omega)) rfl (V.istore4 h 33 dX5_pledgeOf_31 rfl rfl ?_)))))))
      refine V.iload2 h 34 dX5_pledgeOf_33 rfl ?_
      refine V.tcase (off := 50) h (0 : Int32) 84 dX5_pledgeOf_34 (by decide) (by decide +kernel) rfl (fun c34_0 => ?_) (fun c34_0 => ?_)
      · obtain ⟨j, hj, rfl⟩ : ∃ j, j < 6 ∧ what = nI j := by
          first | exact ⟨0, by decide, c34_0⟩ | exact ⟨1, by decide, c34_1⟩ | exact ⟨2, by decide, c34_2⟩ | exact ⟨3, by decide, c34_3⟩ | exact ⟨4, by decide, c34_4⟩ | exact ⟨5, by decide, c34_5⟩
        rw [show rng 0 (nI j) 5 = true from rng_of (n := 5) (by decide) (by omega), if_pos rfl, nI_tn (by omega)] at hq
        refine V.aload0 h 85 dX5_pledgeOf_84 rfl (V.iload1 h 86 dX5_pledgeOf_85 rfl (V.iload2 h 87 dX5_pledgeOf_86 rfl (V.iconst h 88 dX5_pledgeOf_87 rfl ic1_1 (V.iadd h 89 dX5_pledgeOf_88 rfl (V.callVf (As := [.int _, .int _]) (st := []) h 92 dX5_pledgeOf_89 rfl k648 k645 k647 ks63 k6 hd_X5_of ⟨(Nat.le_of_ble_eq_true rfl), (Nat.le_of_ble_eq_true rfl)⟩ (Nat.le_of_ble_eq_true rfl) mo rfl rfl ⟨Nat.zero_le _, Nat.zero_le _⟩ (c_of (j + 1) (nI_lit j 1) (by omega) (by omega)) rfl ?_)))))
        refine V.iret h hR dX5_pledgeOf_92 ?_
        exact RM_of (by rw [hq]) Sc.of_sc
      refine V.tcase (off := 50) h (1 : Int32) 84 dX5_pledgeOf_34 (by decide) (by decide +kernel) rfl (fun c34_1 => ?_) (fun c34_1 => ?_)
      · obtain ⟨j, hj, rfl⟩ : ∃ j, j < 6 ∧ what = nI j := by
          first | exact ⟨0, by decide, c34_0⟩ | exact ⟨1, by decide, c34_1⟩ | exact ⟨2, by decide, c34_2⟩ | exact ⟨3, by decide, c34_3⟩ | exact ⟨4, by decide, c34_4⟩ | exact ⟨5, by decide, c34_5⟩
        rw [show rng 0 (nI j) 5 = true from rng_of (n := 5) (by decide) (by omega), if_pos rfl, nI_tn (by omega)] at hq
        refine V.aload0 h 85 dX5_pledgeOf_84 rfl (V.iload1 h 86 dX5_pledgeOf_85 rfl (V.iload2 h 87 dX5_pledgeOf_86 rfl (V.iconst h 88 dX5_pledgeOf_87 rfl ic1_1 (V.iadd h 89 dX5_pledgeOf_88 rfl (V.callVf (As := [.int _, .int _]) (st := []) h 92 dX5_pledgeOf_89 rfl k648 k645 k647 ks63 k6 hd_X5_of ⟨(Nat.le_of_ble_eq_true rfl), (Nat.le_of_ble_eq_true rfl)⟩ (Nat.le_of_ble_eq_true rfl) mo rfl rfl ⟨Nat.zero_le _, Nat.zero_le _⟩ (c_of (j + 1) (nI_lit j 1) (by omega) (by omega)) rfl ?_)))))
        refine V.iret h hR dX5_pledgeOf_92 ?_
        exact RM_of (by rw [hq]) Sc.of_sc
      refine V.tcase (off := 50) h (2 : Int32) 84 dX5_pledgeOf_34 (by decide) (by decide +kernel) rfl (fun c34_2 => ?_) (fun c34_2 => ?_)
      · obtain ⟨j, hj, rfl⟩ : ∃ j, j < 6 ∧ what = nI j := by
          first | exact ⟨0, by decide, c34_0⟩ | exact ⟨1, by decide, c34_1⟩ | exact ⟨2, by decide, c34_2⟩ | exact ⟨3, by decide, c34_3⟩ | exact ⟨4, by decide, c34_4⟩ | exact ⟨5, by decide, c34_5⟩
        rw [show rng 0 (nI j) 5 = true from rng_of (n := 5) (by decide) (by omega), if_pos rfl, nI_tn (by omega)] at hq
        refine V.aload0 h 85 dX5_pledgeOf_84 rfl (V.iload1 h 86 dX5_pledgeOf_85 rfl (V.iload2 h 87 dX5_pledgeOf_86 rfl (V.iconst h 88 dX5_pledgeOf_87 rfl ic1_1 (V.iadd h 89 dX5_pledgeOf_88 rfl (V.callVf (As := [.int _, .int _]) (st := []) h 92 dX5_pledgeOf_89 rfl k648 k645 k647 ks63 k6 hd_X5_of ⟨(Nat.le_of_ble_eq_true rfl), (Nat.le_of_ble_eq_true rfl)⟩ (Nat.le_of_ble_eq_true rfl) mo rfl rfl ⟨Nat.zero_le _, Nat.zero_le _⟩ (c_of (j + 1) (nI_lit j 1) (by omega) (by omega)) rfl ?_)))))
        refine V.iret h hR dX5_pledgeOf_92 ?_
        exact RM_of (by rw [hq]) Sc.of_sc
      refine V.tcase (off := 50) h (3 : Int32) 84 dX5_pledgeOf_34 (by decide) (by decide +kernel) rfl (fun c34_3 => ?_) (fun c34_3 => ?_)
      · obtain ⟨j, hj, rfl⟩ : ∃ j, j < 6 ∧ what = nI j := by
          first | exact ⟨0, by decide, c34_0⟩ | exact ⟨1, by decide, c34_1⟩ | exact ⟨2, by decide, c34_2⟩ | exact ⟨3, by decide, c34_3⟩ | exact ⟨4, by decide, c34_4⟩ | exact ⟨5, by decide, c34_5⟩
        rw [show rng 0 (nI j) 5 = true from rng_of (n := 5) (by decide) (by omega), if_pos rfl, nI_tn (by omega)] at hq
        refine V.aload0 h 85 dX5_pledgeOf_84 rfl (V.iload1 h 86 dX5_pledgeOf_85 rfl (V.iload2 h 87 dX5_pledgeOf_86 rfl (V.iconst h 88 dX5_pledgeOf_87 rfl ic1_1 (V.iadd h 89 dX5_pledgeOf_88 rfl (V.callVf (As := [.int _, .int _]) (st := []) h 92 dX5_pledgeOf_89 rfl k648 k645 k647 ks63 k6 hd_X5_of ⟨(Nat.le_of_ble_eq_true rfl), (Nat.le_of_ble_eq_true rfl)⟩ (Nat.le_of_ble_eq_true rfl) mo rfl rfl ⟨Nat.zero_le _, Nat.zero_le _⟩ (c_of (j + 1) (nI_lit j 1) (by omega) (by omega)) rfl ?_)))))
        refine V.iret h hR dX5_pledgeOf_92 ?_
        exact RM_of (by rw [hq]) Sc.of_sc
      refine V.tcase (off := 50) h (4 : Int32) 84 dX5_pledgeOf_34 (by decide) (by decide +kernel) rfl (fun c34_4 => ?_) (fun c34_4 => ?_)
      · obtain ⟨j, hj, rfl⟩ : ∃ j, j < 6 ∧ what = nI j := by
          first | exact ⟨0, by decide, c34_0⟩ | exact ⟨1, by decide, c34_1⟩ | exact ⟨2, by decide, c34_2⟩ | exact ⟨3, by decide, c34_3⟩ | exact ⟨4, by decide, c34_4⟩ | exact ⟨5, by decide, c34_5⟩
        rw [show rng 0 (nI j) 5 = true from rng_of (n := 5) (by decide) (by omega), if_pos rfl, nI_tn (by omega)] at hq
        refine V.aload0 h 85 dX5_pledgeOf_84 rfl (V.iload1 h 86 dX5_pledgeOf_85 rfl (V.iload2 h 87 dX5_pledgeOf_86 rfl (V.iconst h 88 dX5_pledgeOf_87 rfl ic1_1 (V.iadd h 89 dX5_pledgeOf_88 rfl (V.callVf (As := [.int _, .int _]) (st := []) h 92 dX5_pledgeOf_89 rfl k648 k645 k647 ks63 k6 hd_X5_of ⟨(Nat.le_of_ble_eq_true rfl), (Nat.le_of_ble_eq_true rfl)⟩ (Nat.le_of_ble_eq_true rfl) mo rfl rfl ⟨Nat.zero_le _, Nat.zero_le _⟩ (c_of (j + 1) (nI_lit j 1) (by omega) (by omega)) rfl ?_)))))
        refine V.iret h hR dX5_pledgeOf_92 ?_
        exact RM_of (by rw [hq]) Sc.of_sc
      refine V.tcase (off := 50) h (5 : Int32) 84 dX5_pledgeOf_34 (by decide) (by decide +kernel) rfl (fun c34_5 => ?_) (fun c34_5 => ?_)
      · obtain ⟨j, hj, rfl⟩ : ∃ j, j < 6 ∧ what = nI j := by
          first | exact ⟨0, by decide, c34_0⟩ | exact ⟨1, by decide, c34_1⟩ | exact ⟨2, by decide, c34_2⟩ | exact ⟨3, by decide, c34_3⟩ | exact ⟨4, by decide, c34_4⟩ | exact ⟨5, by decide, c34_5⟩
        rw [show rng 0 (nI j) 5 = true from rng_of (n := 5) (by decide) (by omega), if_pos rfl, nI_tn (by omega)] at hq
        refine V.aload0 h 85 dX5_pledgeOf_84 rfl (V.iload1 h 86 dX5_pledgeOf_85 rfl (V.iload2 h 87 dX5_pledgeOf_86 rfl (V.iconst h 88 dX5_pledgeOf_87 rfl ic1_1 (V.iadd h 89 dX5_pledgeOf_88 rfl (V.callVf (As := [.int _, .int _]) (st := []) h 92 dX5_pledgeOf_89 rfl k648 k645 k647 ks63 k6 hd_X5_of ⟨(Nat.le_of_ble_eq_true rfl), (Nat.le_of_ble_eq_true rfl)⟩ (Nat.le_of_ble_eq_true rfl) mo rfl rfl ⟨Nat.zero_le _, Nat.zero_le _⟩ (c_of (j + 1) (nI_lit j 1) (by omega) (by omega)) rfl ?_)))))
        refine V.iret h hR dX5_pledgeOf_92 ?_
        exact RM_of (by rw [hq]) Sc.of_sc
      refine V.tcase (off := 59) h (6 : Int32) 93 dX5_pledgeOf_34 (by decide) (by decide +kernel) rfl (fun c34_6 => ?_) (fun c34_6 => ?_)
      · refine V.iload4 h 95 dX5_pledgeOf_93 rfl ?_
        refine V.bif_eq h 102 98 dX5_pledgeOf_95 rfl rfl (fun c95 => ?_) (fun c95 => ?_)
        · refine V.iconst h 103 dX5_pledgeOf_102 rfl ic1_0 ?_
          refine V.iret h hR dX5_pledgeOf_103 ?_
          subst c34_6
          refine RM_of ?_ Sc.of_sc
          rw [hq, show rng 0 6 5 = false by decide]
          show ((bI (Bt (std (vP s) (mX M) 0) k)), s) = _
          rw [c95]; rfl
        · refine V.iconst h 99 dX5_pledgeOf_98 rfl ic1_1 (V.goto h 103 dX5_pledgeOf_99 rfl ?_)
          refine V.iret h hR dX5_pledgeOf_103 ?_
          subst c34_6
          refine RM_of ?_ Sc.of_sc
          rw [hq, show rng 0 6 5 = false by decide]
          show ((bI (Bt (std (vP s) (mX M) 0) k)), s) = _
          rw [c95]; rfl
      refine V.tcase (off := 70) h (7 : Int32) 104 dX5_pledgeOf_34 (by decide) (by decide +kernel) rfl (fun c34_7 => ?_) (fun c34_7 => ?_)
      · refine V.iload4 h 106 dX5_pledgeOf_104 rfl ?_
        refine V.bif_eq h 114 109 dX5_pledgeOf_106 rfl rfl (fun c106 => ?_) (fun c106 => ?_)
        · refine V.aload0 h 115 dX5_pledgeOf_114 rfl (V.gX5 h 8 118 dX5_pledgeOf_115 rfl rfl k552 mo rfl (V.iload1 h 119 dX5_pledgeOf_118 rfl (V.ialdN h 120 dX5_pledgeOf_119 rfl ma5 (by omega) (by decide) ?_)))
          refine V.iret h hR dX5_pledgeOf_120 ?_
          subst c34_7
          refine RM_of ?_ Sc.of_sc
          rw [hq, show rng 0 7 5 = false by decide]
          show ((if Bt (std (vP s) (mX M) 0) k = true then (-4 : Int32) else wav (vP s) (mX M) k), s) = _
          rw [c106]; first | rfl | (rw [if_neg (by decide)]; exact congrArg (fun z => (z, s)) (wav_of hk ht c106).symm)
        · refine V.bipush h 111 dX5_pledgeOf_109 rfl ic2_m4 (V.goto h 120 dX5_pledgeOf_111 rfl ?_)
          refine V.iret h hR dX5_pledgeOf_120 ?_
          subst c34_7
          refine RM_of ?_ Sc.of_sc
          rw [hq, show rng 0 7 5 = false by decide]
          show ((if Bt (std (vP s) (mX M) 0) k = true then (-4 : Int32) else wav (vP s) (mX M) k), s) = _
          rw [c106]; first | rfl | (rw [if_neg (by decide)]; exact congrArg (fun z => (z, s)) (wav_of hk ht c106).symm)
      refine V.tcase (off := 87) h (8 : Int32) 121 dX5_pledgeOf_34 (by decide) (by decide +kernel) rfl (fun c34_8 => ?_) (fun c34_8 => ?_)
      · refine V.aload0 h 122 dX5_pledgeOf_121 rfl (V.iload1 h 123 dX5_pledgeOf_122 rfl (V.bipush h 125 dX5_pledgeOf_123 rfl ic2_7 (V.callVf (As := [.int _, .int _]) (st := []) h 128 dX5_pledgeOf_125 rfl k648 k645 k647 ks63 k6 hd_X5_of ⟨(Nat.le_of_ble_eq_true rfl), (Nat.le_of_ble_eq_true rfl)⟩ (Nat.le_of_ble_eq_true rfl) mo rfl rfl ⟨Nat.zero_le _, Nat.zero_le _⟩ (c_of 7 rfl (by omega) (by decide)) rfl ?_)))
        refine V.iret h hR dX5_pledgeOf_128 ?_
        subst c34_8
        exact RM_of (by rw [hq]; rfl) Sc.of_sc
      refine V.tdflt h 129 dX5_pledgeOf_34 (by have e0 := lv_neT (a := 0) c34_0 (by decide); have e1 := lv_neT (a := 1) c34_1 (by decide); have e2 := lv_neT (a := 2) c34_2 (by decide); have e3 := lv_neT (a := 3) c34_3 (by decide); have e4 := lv_neT (a := 4) c34_4 (by decide); have e5 := lv_neT (a := 5) c34_5 (by decide); have e6 := lv_neT (a := 6) c34_6 (by decide); have e7 := lv_neT (a := 7) c34_7 (by decide); have e8 := lv_neT (a := 8) c34_8 (by decide); omega) rfl ?_
      have hn5 : rng 0 what 5 = false := by
        cases h5 : rng 0 what 5
        · rfl
        · obtain ⟨j, hj, rfl⟩ := rng_nat (n := 5) (by decide) h5
          exfalso
          match j, hj with
          | 0, _ => exact c34_0 rfl
          | 1, _ => exact c34_1 rfl
          | 2, _ => exact c34_2 rfl
          | 3, _ => exact c34_3 rfl
          | 4, _ => exact c34_4 rfl
          | 5, _ => exact c34_5 rfl
      rw [hn5, if_neg (by decide), if_neg c34_6, if_neg c34_7, if_neg c34_8] at hq
      refine V.aload0 h 130 dX5_pledgeOf_129 rfl (V.iload1 h 131 dX5_pledgeOf_130 rfl (V.bipush h 133 dX5_pledgeOf_131 rfl ic2_6 (V.callVf (As := [.int _, .int _]) (st := []) h 136 dX5_pledgeOf_133 rfl k648 k645 k647 ks63 k6 hd_X5_of ⟨(Nat.le_of_ble_eq_true rfl), (Nat.le_of_ble_eq_true rfl)⟩ (Nat.le_of_ble_eq_true rfl) mo rfl rfl ⟨Nat.zero_le _, Nat.zero_le _⟩ (c_of 6 rfl (by omega) (by decide)) rfl (V.iconst h 137 dX5_pledgeOf_136 rfl ic1_1 ?_))))
      refine V.icmp_ne h 145 140 dX5_pledgeOf_137 rfl rfl (fun c137 => ?_) (fun c137 => ?_)
      · refine V.iload3 h 146 dX5_pledgeOf_145 rfl (V.aload0 h 147 dX5_pledgeOf_146 rfl (V.iconst h 148 dX5_pledgeOf_147 rfl ic1_1 (V.iload1 h 149 dX5_pledgeOf_148 rfl (V.ishl h 150 dX5_pledgeOf_149 rfl (V.callVf (As := [.int _]) (st := [.int _]) h 153 dX5_pledgeOf_150 rfl k683 k680 k682 ks70 k6 hd_X5_stands ⟨(Nat.le_of_ble_eq_true rfl), (Nat.le_of_ble_eq_true rfl)⟩ (Nat.le_of_ble_eq_true rfl) mo rfl rfl ⟨Nat.zero_le _, Nat.zero_le _⟩ (c_stands hok) rfl (V.iconst h 154 dX5_pledgeOf_153 rfl ic1_m1 (V.ixor h 155 dX5_pledgeOf_154 rfl ?_)))))))
        refine V.iand h 156 dX5_pledgeOf_155 rfl (V.iconst h 157 dX5_pledgeOf_156 rfl ic1_1 (V.iload1 h 158 dX5_pledgeOf_157 rfl (V.ishl h 159 dX5_pledgeOf_158 rfl (V.iconst h 160 dX5_pledgeOf_159 rfl ic1_m1 (V.ixor h 161 dX5_pledgeOf_160 rfl (V.iand h 162 dX5_pledgeOf_161 rfl ?_))))))
        refine V.iret h hR dX5_pledgeOf_162 ?_
        first | (exact RM_of (by rw [hq, if_neg (show ¬ sCalled s k = true by unfold sCalled; simpa using c137)]; rfl) (Sc.tr Sc.of_sc Sc.of_sc)) | (exact RM_of (by rw [hq, if_pos (show sCalled s k = true from decide_eq_true c137)]) Sc.of_sc)
      · refine V.bipush h 142 dX5_pledgeOf_140 rfl ic2_m2 (V.goto h 162 dX5_pledgeOf_142 rfl ?_)
        refine V.iret h hR dX5_pledgeOf_162 ?_
        first | (exact RM_of (by rw [hq, if_neg (show ¬ sCalled s k = true by unfold sCalled; simpa using c137)]; rfl) (Sc.tr Sc.of_sc Sc.of_sc)) | (exact RM_of (by rw [hq, if_pos (show sCalled s k = true from decide_eq_true c137)]) Sc.of_sc)
    · refine V.iconst h 19 dX5_pledgeOf_18 rfl ic1_m1 ?_
      refine V.iret h hR dX5_pledgeOf_19 ?_
      first | exact RM_of (by unfold qPl; rw [c5]; rfl) Sc.rf | exact RM_of (by unfold qPl; rw [show rng 0 what 9 = false from c15, Bool.and_false]; rfl) Sc.rf
def ned (P : Pl) (x : Ex) (j : Int32) : Int32 := mk (fun k => Bt (P 6 0) k && !hasG P x (std P x (pw (nI k))) j) 12
theorem c_X5_neededFor {M : Pl} {b j : Nat} {s : Nat → Int32} {w : Wd} (hok : sOK s) (hj : j < 4) : K_X5_neededFor [.ref b, .int (nI j)] (mz w b M s) (RM (ned (vP s) (mX M) (nI j), s) w b M) := by
  refine Con.mk [some (.ref b), some (.int (nI j)), none, none, none] (by decide) rfl rfl (Nat.le_of_ble_eq_true rfl) (fun X h hR hnm => ?_)
  have L : ∀ (d n : Nat) (t : Int32) (M' : Pl), n + d = 12 → Sc M M' → t = mk (fun k => Bt (vP s 6 0) k && !hasG (vP s) (mX M) (std (vP s) (mX M) (pw (nI k))) (nI j)) n →
      V X 0 0 10 [some (.ref b), some (.int (nI j)), some (.int t), some (.int (vP s 6 0)), some (.int (nI n))] [] (mz w b M' s) := by
    intro d
    induction d with
    | zero =>
      intro n t M' hnd hM ht
      obtain rfl : n = 12 := by omega
      refine V.iload4 h 12 dX5_neededFor_10 rfl (V.bipush h 14 dX5_neededFor_12 rfl ic2_12 ?_)
      refine V.icmp_ge h 59 17 dX5_neededFor_14 rfl rfl (fun _ => ?_) (fun q => absurd (lp_out (n := 12)) q)
      refine V.iload2 h 60 dX5_neededFor_59 rfl ?_
      refine V.iret h hR dX5_neededFor_60 ?_
      exact RM_of (by rw [ht]; rfl) hM
    | succ d ih =>
      intro n t M' hnd hM ht
      refine V.iload4 h 12 dX5_neededFor_10 rfl (V.bipush h 14 dX5_neededFor_12 rfl ic2_12 ?_)
      refine V.icmp_ge h 59 17 dX5_neededFor_14 rfl rfl (fun q => absurd q (lp_in (n := 12) (by omega))) (fun _ => ?_)
      refine V.iload2 h 18 dX5_neededFor_17 rfl (V.iload3 h 19 dX5_neededFor_18 rfl (V.iload4 h 21 dX5_neededFor_19 rfl (V.callSf (As := [.int _, .int _]) (st := [.int _]) h 24 dX5_neededFor_21 rfl k663 k661 k662 k6 hd_X5_has ⟨(Nat.le_of_ble_eq_true rfl), (Nat.le_of_ble_eq_true rfl)⟩ (Nat.le_of_ble_eq_true rfl) ⟨Nat.zero_le _, Nat.zero_le _⟩ (c_X5_has (by omega)) rfl ?_)))
      refine V.bif_eq h 50 27 dX5_neededFor_24 rfl rfl (fun c24 => ?_) (fun c24 => ?_)
      · refine V.iconst h 51 dX5_neededFor_50 rfl ic1_0 (V.ior h 52 dX5_neededFor_51 rfl (V.istore2 h 53 dX5_neededFor_52 rfl rfl (V.incN4 h 56 dX5_neededFor_53 rfl rfl (V.goto h 10 dX5_neededFor_56 rfl ?_))))
        first
        | exact ih (n + 1) _ _ (by omega) hM (mkf0 ht (by rw [c24]; rfl))
        | exact ih (n + 1) _ _ (by omega) (Sc.tr hM Sc.of_sc) (mkf0 ht (by rw [c24, show hasG (vP s) (mX M) (std (vP s) (mX M) (pw (nI n))) (nI j) = true by rw [← Sc.ex hM, ← Sc.ex (Sc.of_sc (M := M'))]; exact c40]; rfl))
        | exact ih (n + 1) _ _ (by omega) (Sc.tr hM Sc.of_sc) (mkt ht (by rw [c24, show hasG (vP s) (mX M) (std (vP s) (mX M) (pw (nI n))) (nI j) = false by rw [← Sc.ex hM, ← Sc.ex (Sc.of_sc (M := M'))]; exact c40]; rfl))
      · refine V.aload0 h 28 dX5_neededFor_27 rfl (V.aload0 h 29 dX5_neededFor_28 rfl (V.iconst h 30 dX5_neededFor_29 rfl ic1_1 (V.iload4 h 32 dX5_neededFor_30 rfl (V.ishl h 33 dX5_neededFor_32 rfl (V.callVf (As := [.int _]) (st := [.ref _, .int _]) h 36 dX5_neededFor_33 rfl k683 k680 k682 ks70 k6 hd_X5_stands ⟨(Nat.le_of_ble_eq_true rfl), (Nat.le_of_ble_eq_true rfl)⟩ (Nat.le_of_ble_eq_true rfl) mo rfl rfl ⟨Nat.zero_le _, Nat.zero_le _⟩ (c_stands hok) rfl (V.iload1 h 37 dX5_neededFor_36 rfl (V.callVf (As := [.int _, .int _]) (st := [.int _]) h 40 dX5_neededFor_37 rfl k731 k728 k730 ks81 k6 hd_X5_hasGoal ⟨(Nat.le_of_ble_eq_true rfl), (Nat.le_of_ble_eq_true rfl)⟩ (Nat.le_of_ble_eq_true rfl) mo rfl rfl ⟨Nat.zero_le _, Nat.zero_le _⟩ (c_hasGoal (by assumption)) rfl ?_)))))))
        refine V.bif_ne h 50 43 dX5_neededFor_40 rfl rfl (fun c40 => ?_) (fun c40 => ?_)
        · refine V.iconst h 51 dX5_neededFor_50 rfl ic1_0 (V.ior h 52 dX5_neededFor_51 rfl (V.istore2 h 53 dX5_neededFor_52 rfl rfl (V.incN4 h 56 dX5_neededFor_53 rfl rfl (V.goto h 10 dX5_neededFor_56 rfl ?_))))
          first
          | exact ih (n + 1) _ _ (by omega) hM (mkf0 ht (by rw [c24]; rfl))
          | exact ih (n + 1) _ _ (by omega) (Sc.tr hM Sc.of_sc) (mkf0 ht (by rw [c24, show hasG (vP s) (mX M) (std (vP s) (mX M) (pw (nI n))) (nI j) = true by rw [← Sc.ex hM, ← Sc.ex (Sc.of_sc (M := M'))]; exact c40]; rfl))
          | exact ih (n + 1) _ _ (by omega) (Sc.tr hM Sc.of_sc) (mkt ht (by rw [c24, show hasG (vP s) (mX M) (std (vP s) (mX M) (pw (nI n))) (nI j) = false by rw [← Sc.ex hM, ← Sc.ex (Sc.of_sc (M := M'))]; exact c40]; rfl))
        · refine V.iconst h 44 dX5_neededFor_43 rfl ic1_1 (V.iload4 h 46 dX5_neededFor_44 rfl (V.ishl h 47 dX5_neededFor_46 rfl (V.goto h 51 dX5_neededFor_47 rfl (V.ior h 52 dX5_neededFor_51 rfl (V.istore2 h 53 dX5_neededFor_52 rfl rfl (V.incN4 h 56 dX5_neededFor_53 rfl rfl (V.goto h 10 dX5_neededFor_56 rfl ?_)))))))
          first
          | exact ih (n + 1) _ _ (by omega) hM (mkf0 ht (by rw [c24]; rfl))
          | exact ih (n + 1) _ _ (by omega) (Sc.tr hM Sc.of_sc) (mkf0 ht (by rw [c24, show hasG (vP s) (mX M) (std (vP s) (mX M) (pw (nI n))) (nI j) = true by rw [← Sc.ex hM, ← Sc.ex (Sc.of_sc (M := M'))]; exact c40]; rfl))
          | exact ih (n + 1) _ _ (by omega) (Sc.tr hM Sc.of_sc) (mkt ht (by rw [c24, show hasG (vP s) (mX M) (std (vP s) (mX M) (pw (nI n))) (nI j) = false by rw [← Sc.ex hM, ← Sc.ex (Sc.of_sc (M := M'))]; exact c40]; rfl))
  refine V.iconst h 1 dX5_neededFor_0 rfl ic1_0 (V.istore2 h 2 dX5_neededFor_1 rfl rfl (V.aload0 h 3 dX5_neededFor_2 rfl (V.callVf (As := []) (st := []) h 6 dX5_neededFor_3 rfl k652 k649 k651 ks64 k6 hd_X5_open ⟨(Nat.le_of_ble_eq_true rfl), (Nat.le_of_ble_eq_true rfl)⟩ (Nat.le_of_ble_eq_true rfl) mo rfl rfl ⟨Nat.zero_le _, Nat.zero_le _⟩ c_open rfl (V.istore3 h 7 dX5_neededFor_6 rfl rfl (V.iconst h 8 dX5_neededFor_7 rfl ic1_0 (V.istore4 h 10 dX5_neededFor_8 rfl rfl ?_))))))
  exact L 12 0 0 M rfl Sc.rf rfl
def nxI (s : Nat → Int32) (R : Int32) : Nat → Int32
  | 0 => -1
  | n + 1 => if (Bt R n && (decide (nxI s R n < 0) || decide (sF s n 7 < sF s (nxI s R n).toNatClampNeg 7))) = true then nI n else nxI s R n
theorem nxI_cases (s : Nat → Int32) (R : Int32) : ∀ n, (nxI s R n = -1 ∧ ∀ k, k < n → Bt R k = false) ∨ ∃ m, m < n ∧ nxI s R n = nI m ∧ Bt R m = true
  | 0 => Or.inl ⟨rfl, fun k h => absurd h (by omega)⟩
  | n + 1 => by
    rw [nxI]
    split
    · rename_i h
      rw [Bool.and_eq_true] at h
      exact Or.inr ⟨n, by omega, rfl, h.1⟩
    · rename_i h
      rcases nxI_cases s R n with ⟨q1, q2⟩ | ⟨m, h1, h2, h3⟩
      · refine Or.inl ⟨q1, fun k hk => ?_⟩
        by_cases hkn : k = n
        · subst hkn
          rw [q1, show (decide ((-1 : Int32) < 0)) = true by decide, Bool.true_or, Bool.and_true] at h
          simpa using h
        · exact q2 k (by omega)
      · exact Or.inr ⟨m, by omega, h2, h3⟩
def tipL (s : Nat → Int32) (x : Ex) (j : Int32) : Nat → Int32 → Int32
  | 0, _ => -4
  | n + 1, made => if made = live (vP s) then -4
    else if hasG (vP s) x (grt (vP s) x (vP s 6 0 &&& (made ||| pw (nxI s (live (vP s) &&& (made ^^^ (-1))) 12))) (vP s 7 0 &&& (made ||| pw (nxI s (live (vP s) &&& (made ^^^ (-1))) 12))) ||| (vP s 7 0 &&& (made ||| pw (nxI s (live (vP s) &&& (made ^^^ (-1))) 12)))) j = true then nxI s (live (vP s) &&& (made ^^^ (-1))) 12
    else tipL s x j n (made ||| pw (nxI s (live (vP s) &&& (made ^^^ (-1))) 12))
theorem live_lo (s : Nat → Int32) : lo12 (live (vP s)) := lo12_or (open_lo s) (called_lo s)
theorem c_tipAll {w : Wd} {b : Nat} {M : Pl} {s : Nat → Int32} : K_X5_pledges [.ref b, .int 1, .int 1] (mz w b M s) (RI (live (vP s)) (mz w b M s)) := c_X5_all (M := ua M 0 s)
theorem c_called {w : Wd} {b : Nat} {M : Pl} {s : Nat → Int32} : K_X5_called [.ref b] (mz w b M s) (RI (vP s 7 0) (mz w b M s)) := c_X5_called
theorem c_greatest {w : Wd} {b : Nat} {M : Pl} {s : Nat → Int32} {S C : Int32} (hok : ∀ k, k < 12 → Bt S k = true → kOK (vP s) k) : K_X5_greatest [.ref b, .int S, .int C] (mz w b M s) (RI (grt (vP s) (mX M) S C) (mz w b (sc M (nI (nw (vP s) (mX M) S C 12)) (wvm (vP s) (mX M) S C (M 8) 12)) s)) := by
  have h := c_X5_greatest (M := ua M 0 s) (b := b) (S := S) (C := C) (w := w) hok
  rw [z_sc] at h
  exact h
theorem c_X5_tipOf {M : Pl} {b j : Nat} {s : Nat → Int32} {w : Wd} (hok : sOK s) (hj : j < 4) : K_X5_tipOf [.ref b, .int (nI j)] (mz w b M s) (RM (tipL s (mX M) (nI j) 13 0, s) w b M) := by
  refine Con.mk [some (.ref b), some (.int (nI j)), none, none, none, none] (by decide) rfl rfl (Nat.le_of_ble_eq_true rfl) (fun X h hR hnm => ?_)
  have L2 : ∀ (M' : Pl) (A D : Int32) (d n : Nat), n + d = 12 →
      (V X 0 0 79 [some (.ref b), some (.int (nI j)), some (.int A), some (.int D), some (.int (nxI s (A &&& (D ^^^ (-1))) 12)), some (.int (nI 12))] [] (mz w b M' s)) →
      V X 0 0 20 [some (.ref b), some (.int (nI j)), some (.int A), some (.int D), some (.int (nxI s (A &&& (D ^^^ (-1))) n)), some (.int (nI n))] [] (mz w b M' s) := by
    intro M' A D d
    induction d with
    | zero =>
      intro n hnd k
      obtain rfl : n = 12 := by omega
      refine V.iload5 h 22 dX5_tipOf_20 rfl (V.bipush h 24 dX5_tipOf_22 rfl ic2_12 ?_)
      refine V.icmp_ge h 79 27 dX5_tipOf_24 rfl rfl (fun _ => ?_) (fun q => absurd (lp_out (n := 12)) q)
      exact k
    | succ d ih =>
      intro n hnd k
      have hst : ∀ z : Int32, z = (if (Bt (A &&& (D ^^^ (-1))) n && (decide (nxI s (A &&& (D ^^^ (-1))) n < 0) || decide (sF s n 7 < sF s (nxI s (A &&& (D ^^^ (-1))) n).toNatClampNeg 7))) = true then nI n else nxI s (A &&& (D ^^^ (-1))) n) → V X 0 0 73 [some (.ref b), some (.int (nI j)), some (.int A), some (.int D), some (.int z), some (.int (nI n))] [] (mz w b M' s) := by
        intro z hz
        have hz : z = nxI s (A &&& (D ^^^ (-1))) (n + 1) := hz
        subst hz
        refine V.incN5 h 76 dX5_tipOf_73 rfl rfl (V.goto h 20 dX5_tipOf_76 rfl ?_)
        exact ih (n + 1) (by omega) k
      rcases nxI_cases s (A &&& (D ^^^ (-1))) n with ⟨q1, q2⟩ | ⟨m, hm, q1, q2⟩
      · refine V.iload5 h 22 dX5_tipOf_20 rfl (V.bipush h 24 dX5_tipOf_22 rfl ic2_12 ?_)
        refine V.icmp_ge h 79 27 dX5_tipOf_24 rfl rfl (fun q => absurd q (lp_in (n := 12) (by omega))) (fun _ => ?_)
        refine V.iload2 h 28 dX5_tipOf_27 rfl (V.iload3 h 29 dX5_tipOf_28 rfl (V.iconst h 30 dX5_tipOf_29 rfl ic1_m1 (V.ixor h 31 dX5_tipOf_30 rfl (V.iand h 32 dX5_tipOf_31 rfl (V.iload5 h 34 dX5_tipOf_32 rfl (V.callSf (As := [.int _, .int _]) (st := []) h 37 dX5_tipOf_34 rfl k663 k661 k662 k6 hd_X5_has ⟨(Nat.le_of_ble_eq_true rfl), (Nat.le_of_ble_eq_true rfl)⟩ (Nat.le_of_ble_eq_true rfl) ⟨Nat.zero_le _, Nat.zero_le _⟩ (c_X5_has (by omega)) rfl ?_))))))
        refine V.bif_eq h 69 40 dX5_tipOf_37 rfl rfl (fun c37 => ?_) (fun c37 => ?_)
        · refine V.iload4 h 71 dX5_tipOf_69 rfl (V.istore4 h 73 dX5_tipOf_71 rfl rfl ?_)
          first
          | exact hst _ (by rw [c37, q1]; rfl)
          | exact hst _ (by rw [c37]; rfl)
        · refine V.iload4 h 42 dX5_tipOf_40 rfl ?_
          refine V.if_lt h 64 45 dX5_tipOf_42 rfl rfl (fun _ => ?_) (fun q => absurd (show nxI s (A &&& (D ^^^ (-1))) n < 0 by rw [q1]; decide) q)
          refine V.iload5 h 66 dX5_tipOf_64 rfl (V.goto h 71 dX5_tipOf_66 rfl (V.istore4 h 73 dX5_tipOf_71 rfl rfl ?_))
          first
          | exact hst _ (by rw [c37, q1]; rfl)
          | exact hst _ (by rw [c37]; rfl)
      · refine V.iload5 h 22 dX5_tipOf_20 rfl (V.bipush h 24 dX5_tipOf_22 rfl ic2_12 ?_)
        refine V.icmp_ge h 79 27 dX5_tipOf_24 rfl rfl (fun q => absurd q (lp_in (n := 12) (by omega))) (fun _ => ?_)
        refine V.iload2 h 28 dX5_tipOf_27 rfl (V.iload3 h 29 dX5_tipOf_28 rfl (V.iconst h 30 dX5_tipOf_29 rfl ic1_m1 (V.ixor h 31 dX5_tipOf_30 rfl (V.iand h 32 dX5_tipOf_31 rfl (V.iload5 h 34 dX5_tipOf_32 rfl (V.callSf (As := [.int _, .int _]) (st := []) h 37 dX5_tipOf_34 rfl k663 k661 k662 k6 hd_X5_has ⟨(Nat.le_of_ble_eq_true rfl), (Nat.le_of_ble_eq_true rfl)⟩ (Nat.le_of_ble_eq_true rfl) ⟨Nat.zero_le _, Nat.zero_le _⟩ (c_X5_has (by omega)) rfl ?_))))))
        refine V.bif_eq h 69 40 dX5_tipOf_37 rfl rfl (fun c37 => ?_) (fun c37 => ?_)
        · refine V.iload4 h 71 dX5_tipOf_69 rfl (V.istore4 h 73 dX5_tipOf_71 rfl rfl ?_)
          first
          | exact hst _ (by rw [c37, decide_eq_true (show sF s n 7 < sF s (nxI s (A &&& (D ^^^ (-1))) n).toNatClampNeg 7 by rw [q1, nI_tn (by omega)]; exact nle c61), Bool.or_true]; rfl)
          | exact hst _ (by rw [c37]; rfl)
          | exact hst _ (by rw [decide_eq_false (show ¬ sF s n 7 < sF s (nxI s (A &&& (D ^^^ (-1))) n).toNatClampNeg 7 by rw [q1, nI_tn (by omega)]; exact le_n c61), decide_eq_false (show ¬ nxI s (A &&& (D ^^^ (-1))) n < 0 by rw [q1]; exact nI_pos (by omega)), Bool.or_false, Bool.and_false, if_neg (by decide), q1])
        · refine V.iload4 h 42 dX5_tipOf_40 rfl ?_
          refine V.if_lt h 64 45 dX5_tipOf_42 rfl rfl (fun q => absurd q (show ¬ nxI s (A &&& (D ^^^ (-1))) n < 0 by rw [q1]; exact nI_pos (by omega))) (fun _ => ?_)
          refine V.aload0 h 46 dX5_tipOf_45 rfl (V.iload5 h 48 dX5_tipOf_46 rfl (V.bipush h 50 dX5_tipOf_48 rfl ic2_7 (V.callVf (As := [.int _, .int _]) (st := []) h 53 dX5_tipOf_50 rfl k648 k645 k647 ks63 k6 hd_X5_of ⟨(Nat.le_of_ble_eq_true rfl), (Nat.le_of_ble_eq_true rfl)⟩ (Nat.le_of_ble_eq_true rfl) mo rfl rfl ⟨Nat.zero_le _, Nat.zero_le _⟩ (c_of 7 rfl (by omega) (by decide)) rfl (V.aload0 h 54 dX5_tipOf_53 rfl (V.iload4 h 56 dX5_tipOf_54 rfl ?_)))))
          rw [q1]
          refine V.bipush h 58 dX5_tipOf_56 rfl ic2_7 (V.callVf (As := [.int _, .int _]) (st := [.int _]) h 61 dX5_tipOf_58 rfl k648 k645 k647 ks63 k6 hd_X5_of ⟨(Nat.le_of_ble_eq_true rfl), (Nat.le_of_ble_eq_true rfl)⟩ (Nat.le_of_ble_eq_true rfl) mo rfl rfl ⟨Nat.zero_le _, Nat.zero_le _⟩ (c_of 7 rfl (by omega) (by decide)) rfl ?_)
          refine V.icmp_ge h 69 64 dX5_tipOf_61 rfl rfl (fun c61 => ?_) (fun c61 => ?_)
          · refine V.iload4 h 71 dX5_tipOf_69 rfl (V.istore4 h 73 dX5_tipOf_71 rfl rfl ?_)
            first
            | exact hst _ (by rw [c37, decide_eq_true (show sF s n 7 < sF s (nxI s (A &&& (D ^^^ (-1))) n).toNatClampNeg 7 by rw [q1, nI_tn (by omega)]; exact nle c61), Bool.or_true]; rfl)
            | exact hst _ (by rw [c37]; rfl)
            | exact hst _ (by rw [decide_eq_false (show ¬ sF s n 7 < sF s (nxI s (A &&& (D ^^^ (-1))) n).toNatClampNeg 7 by rw [q1, nI_tn (by omega)]; exact le_n c61), decide_eq_false (show ¬ nxI s (A &&& (D ^^^ (-1))) n < 0 by rw [q1]; exact nI_pos (by omega)), Bool.or_false, Bool.and_false, if_neg (by decide), q1])
          · refine V.iload5 h 66 dX5_tipOf_64 rfl (V.goto h 71 dX5_tipOf_66 rfl (V.istore4 h 73 dX5_tipOf_71 rfl rfl ?_))
            first
            | exact hst _ (by rw [c37, decide_eq_true (show sF s n 7 < sF s (nxI s (A &&& (D ^^^ (-1))) n).toNatClampNeg 7 by rw [q1, nI_tn (by omega)]; exact nle c61), Bool.or_true]; rfl)
            | exact hst _ (by rw [c37]; rfl)
            | exact hst _ (by rw [decide_eq_false (show ¬ sF s n 7 < sF s (nxI s (A &&& (D ^^^ (-1))) n).toNatClampNeg 7 by rw [q1, nI_tn (by omega)]; exact le_n c61), decide_eq_false (show ¬ nxI s (A &&& (D ^^^ (-1))) n < 0 by rw [q1]; exact nI_pos (by omega)), Bool.or_false, Bool.and_false, if_neg (by decide), q1])
  have okA : ∀ T : Int32, ∀ k, k < 12 → Bt (vP s 6 0 &&& T) k = true → kOK (vP s) k := fun T k hk h => hok k hk (by rw [bt_and, Bool.and_eq_true] at h; exact h.1)
  obtain ⟨tp, htp⟩ : ∃ tp, tp = tipL s (mX M) (nI j) 13 0 := ⟨_, rfl⟩
  rw [← htp] at hR
  have L : ∀ (f : Nat) (D : Int32) (M' : Pl) (u4 u5 : Option Value), tp = tipL s (mX M) (nI j) f D → lo12 D → (∀ k, k < 12 → Bt D k = true → Bt (live (vP s)) k = true) → Sc M M' → nbc (Bt (live (vP s) &&& (D ^^^ (-1)))) 12 < f →
      V X 0 0 9 [some (.ref b), some (.int (nI j)), some (.int (live (vP s))), some (.int D), u4, u5] [] (mz w b M' s) := by
    intro f
    induction f with
    | zero => intro D M' u4 u5 _ _ _ _ h; exact absurd h (by omega)
    | succ f ih =>
      intro D M' u4 u5 ht hlo hsub hM hlt
      rw [tipL] at ht
      by_cases hD : D = live (vP s)
      · rw [if_pos hD] at ht
        refine V.iload3 h 10 dX5_tipOf_9 rfl (V.iload2 h 11 dX5_tipOf_10 rfl ?_)
        refine V.icmp_eq h 123 14 dX5_tipOf_11 rfl rfl (fun _ => ?_) (fun q => absurd hD q)
        refine V.bipush h 125 dX5_tipOf_123 rfl ic2_m4 ?_
        refine V.iret h hR dX5_tipOf_125 ?_
        exact RM_of (by rw [ht]) hM
      · rw [if_neg hD] at ht
        obtain ⟨m, hm, hmx, hmR⟩ : ∃ m, m < 12 ∧ nxI s (live (vP s) &&& (D ^^^ (-1))) 12 = nI m ∧ Bt (live (vP s) &&& (D ^^^ (-1))) m = true := by
          rcases nxI_cases s (live (vP s) &&& (D ^^^ (-1))) 12 with ⟨q1, q2⟩ | q
          · exfalso
            apply hD
            refine lo12_ext hlo (live_lo s) fun k hk => ?_
            have h1 := q2 k hk
            rw [bt_and, bt_not _ (by omega)] at h1
            cases hd : Bt D k
            · rw [hd] at h1; simpa using h1.symm
            · exact (hsub k hk hd).symm
          · exact q
        rw [hmx] at ht
        rw [bt_and, bt_not _ (by omega), Bool.and_eq_true] at hmR
        have hlo' : lo12 (D ||| pw (nI m)) := lo12_or hlo (lo12_pw hm)
        have hsub' : ∀ k, k < 12 → Bt (D ||| pw (nI m)) k = true → Bt (live (vP s)) k = true := by
          intro k hk h
          rw [bt_or, bt_pw (by omega), Bool.or_eq_true] at h
          rcases h with h | h
          · exact hsub k hk h
          · rw [of_decide_eq_true h]; exact hmR.1
        obtain ⟨N, hN⟩ : ∃ N, N = 12 := ⟨_, rfl⟩
        have hlt' : nbc (Bt (live (vP s) &&& ((D ||| pw (nI m)) ^^^ (-1)))) 12 < f := by
          have h2 : nbc (Bt (live (vP s) &&& ((D ||| pw (nI m)) ^^^ (-1)))) N < nbc (Bt (live (vP s) &&& (D ^^^ (-1)))) N := by
            refine nbc_lt (j := m) (fun k hk h => ?_) (by omega) ?_ ?_
            · rw [bt_and, bt_not _ (by omega), bt_or, Bool.and_eq_true] at h
              rw [bt_and, bt_not _ (by omega), h.1]
              have h5 := h.2
              cases hd : Bt D k
              · rfl
              · rw [hd] at h5; simp at h5
            · rw [bt_and, bt_not _ (by omega), bt_or, bt_pw (by omega)]; simp
            · rw [bt_and, bt_not _ (by omega), hmR.1, hmR.2]; rfl
          rw [hN] at h2
          omega
        refine V.iload3 h 10 dX5_tipOf_9 rfl (V.iload2 h 11 dX5_tipOf_10 rfl ?_)
        refine V.icmp_eq h 123 14 dX5_tipOf_11 rfl rfl (fun q => absurd q hD) (fun _ => ?_)
        refine V.iconst h 15 dX5_tipOf_14 rfl ic1_m1 (V.istore4 h 17 dX5_tipOf_15 rfl rfl (V.iconst h 18 dX5_tipOf_17 rfl ic1_0 (V.istore5 h 20 dX5_tipOf_18 rfl rfl ?_)))
        refine L2 M' (live (vP s)) D 12 0 rfl ?_
        rw [hmx]
        refine V.iload3 h 80 dX5_tipOf_79 rfl (V.iconst h 81 dX5_tipOf_80 rfl ic1_1 (V.iload4 h 83 dX5_tipOf_81 rfl (V.ishl h 84 dX5_tipOf_83 rfl ?_)))
        rw [show (1 : Int32) <<< (nI m &&& 31) = pw (nI m) from rfl]
        refine V.ior h 85 dX5_tipOf_84 rfl (V.istore3 h 86 dX5_tipOf_85 rfl rfl (V.aload0 h 87 dX5_tipOf_86 rfl (V.callVf (As := []) (st := []) h 90 dX5_tipOf_87 rfl k687 k684 k686 ks71 k6 hd_X5_called ⟨(Nat.le_of_ble_eq_true rfl), (Nat.le_of_ble_eq_true rfl)⟩ (Nat.le_of_ble_eq_true rfl) mo rfl rfl ⟨Nat.zero_le _, Nat.zero_le _⟩ c_called rfl (V.iload3 h 91 dX5_tipOf_90 rfl (V.iand h 92 dX5_tipOf_91 rfl (V.istore5 h 94 dX5_tipOf_92 rfl rfl (V.aload0 h 95 dX5_tipOf_94 rfl ?_)))))))
        refine V.aload0 h 96 dX5_tipOf_95 rfl (V.aload0 h 97 dX5_tipOf_96 rfl (V.callVf (As := []) (st := [.ref _, .ref _]) h 100 dX5_tipOf_97 rfl k652 k649 k651 ks64 k6 hd_X5_open ⟨(Nat.le_of_ble_eq_true rfl), (Nat.le_of_ble_eq_true rfl)⟩ (Nat.le_of_ble_eq_true rfl) mo rfl rfl ⟨Nat.zero_le _, Nat.zero_le _⟩ c_open rfl (V.iload3 h 101 dX5_tipOf_100 rfl (V.iand h 102 dX5_tipOf_101 rfl (V.iload5 h 104 dX5_tipOf_102 rfl (V.callVf (As := [.int _, .int _]) (st := [.ref _]) h 107 dX5_tipOf_104 rfl k691 k688 k690 ks72 k6 hd_X5_greatest ⟨(Nat.le_of_ble_eq_true rfl), (Nat.le_of_ble_eq_true rfl)⟩ (Nat.le_of_ble_eq_true rfl) mo rfl rfl ⟨Nat.zero_le _, Nat.zero_le _⟩ (c_greatest (okA _)) rfl (V.iload5 h 109 dX5_tipOf_107 rfl ?_)))))))
        refine V.ior h 110 dX5_tipOf_109 rfl (V.iload1 h 111 dX5_tipOf_110 rfl (V.callVf (As := [.int _, .int _]) (st := []) h 114 dX5_tipOf_111 rfl k731 k728 k730 ks81 k6 hd_X5_hasGoal ⟨(Nat.le_of_ble_eq_true rfl), (Nat.le_of_ble_eq_true rfl)⟩ (Nat.le_of_ble_eq_true rfl) mo rfl rfl ⟨Nat.zero_le _, Nat.zero_le _⟩ (c_hasGoal (by assumption)) rfl ?_))
        refine V.bif_eq h 120 117 dX5_tipOf_114 rfl rfl (fun c114 => ?_) (fun c114 => ?_)
        · refine V.goto h 9 dX5_tipOf_120 rfl ?_
          refine ih _ _ _ _ ?_ hlo' hsub' (Sc.tr hM Sc.of_sc) hlt'
          rw [ht, if_neg (by rw [← Sc.ex hM]; intro q; exact absurd (c114.symm.trans q) (by decide))]
        · refine V.iload4 h 119 dX5_tipOf_117 rfl ?_
          refine V.iret h hR dX5_tipOf_119 ?_
          refine RM_of ?_ (Sc.tr hM Sc.of_sc)
          rw [ht, if_pos (by rw [← Sc.ex hM]; exact c114)]
  refine V.aload0 h 1 dX5_tipOf_0 rfl (V.iconst h 2 dX5_tipOf_1 rfl ic1_1 (V.iconst h 3 dX5_tipOf_2 rfl ic1_1 (V.callVf (As := [.int _, .int _]) (st := []) h 6 dX5_tipOf_3 rfl k656 k653 k655 ks65 k6 hd_X5_pledges ⟨(Nat.le_of_ble_eq_true rfl), (Nat.le_of_ble_eq_true rfl)⟩ (Nat.le_of_ble_eq_true rfl) mo rfl rfl ⟨Nat.zero_le _, Nat.zero_le _⟩ c_tipAll rfl (V.istore2 h 7 dX5_tipOf_6 rfl rfl (V.iconst h 8 dX5_tipOf_7 rfl ic1_0 (V.istore3 h 9 dX5_tipOf_8 rfl rfl ?_))))))
  exact L 13 0 M none none htp lo12_0 (fun k _ h => by rw [bt_0] at h; cases h) Sc.rf (by
    obtain ⟨N, hN⟩ : ∃ N, N = 12 := ⟨_, rfl⟩
    have := nbc_le (Bt (live (vP s) &&& (0 ^^^ (-1)))) N
    rw [hN] at this
    omega)
