/-! the reference: reads -/
theorem c_X5_in {v l m : Int32} {w : Wd} : K_X5_in [.int v, .int l, .int m] w (RI (bI (decide (l ≤ v) && decide (v ≤ m))) w) := by
  refine Con.mk [some (.int v), some (.int l), some (.int m)] (by decide) rfl rfl (Nat.le_of_ble_eq_true rfl) (fun X h hR hnm => ?_)
  refine V.iload0 h 1 dX5_in_0 rfl (V.iload1 h 2 dX5_in_1 rfl ?_)
  refine V.icmp_lt h 14 5 dX5_in_2 rfl rfl (fun c2 => ?_) (fun c2 => ?_)
  · refine V.iconst h 15 dX5_in_14 rfl ic1_0 ?_
    refine V.zret h hR (by first | exact bI_z _ | rfl) dX5_in_15 ?_
    first | exact RI_t (by simp [nlt c2, nlt c7]) | exact RI_f (by rw [decide_eq_false (lt_n c2), Bool.false_and]) | exact RI_f (by rw [decide_eq_false (lt_n c7), Bool.and_false])
  · refine V.iload0 h 6 dX5_in_5 rfl (V.iload2 h 7 dX5_in_6 rfl ?_)
    refine V.icmp_gt h 14 10 dX5_in_7 rfl rfl (fun c7 => ?_) (fun c7 => ?_)
    · refine V.iconst h 15 dX5_in_14 rfl ic1_0 ?_
      refine V.zret h hR (by first | exact bI_z _ | rfl) dX5_in_15 ?_
      first | exact RI_t (by simp [nlt c2, nlt c7]) | exact RI_f (by rw [decide_eq_false (lt_n c2), Bool.false_and]) | exact RI_f (by rw [decide_eq_false (lt_n c7), Bool.and_false])
    · refine V.iconst h 11 dX5_in_10 rfl ic1_1 (V.goto h 15 dX5_in_11 rfl ?_)
      refine V.zret h hR (by first | exact bI_z _ | rfl) dX5_in_15 ?_
      first | exact RI_t (by simp [nlt c2, nlt c7]) | exact RI_f (by rw [decide_eq_false (lt_n c2), Bool.false_and]) | exact RI_f (by rw [decide_eq_false (lt_n c7), Bool.and_false])
theorem c_X5_has {S : Int32} {k : Nat} {w : Wd} (hk : k < 32) : K_X5_has [.int S, .int (nI k)] w (RI (bI (Bt S k)) w) := by
  refine Con.mk [some (.int S), some (.int (nI k))] (by decide) rfl rfl (Nat.le_of_ble_eq_true rfl) (fun X h hR hnm => ?_)
  refine V.iload0 h 1 dX5_has_0 rfl (V.iload1 h 2 dX5_has_1 rfl (V.ishr h 3 dX5_has_2 rfl (V.iconst h 4 dX5_has_3 rfl ic1_1 (V.iand h 5 dX5_has_4 rfl ?_))))
  rw [tst S hk]
  refine V.iconst h 6 dX5_has_5 rfl ic1_1 ?_
  refine V.icmp_ne h 13 9 dX5_has_6 rfl rfl (fun c6 => ?_) (fun c6 => ?_)
  · refine V.iconst h 14 dX5_has_13 rfl ic1_0 ?_
    refine V.zret h hR (by first | exact bI_z _ | rfl) dX5_has_14 ?_
    first | exact RI_t ((bI_1 _).mp c6) | exact RI_f (by cases hb : Bt S k; rfl; exact absurd (by rw [hb]; rfl) c6)
  · refine V.iconst h 10 dX5_has_9 rfl ic1_1 (V.goto h 14 dX5_has_10 rfl ?_)
    refine V.zret h hR (by first | exact bI_z _ | rfl) dX5_has_14 ?_
    first | exact RI_t ((bI_1 _).mp c6) | exact RI_f (by cases hb : Bt S k; rfl; exact absurd (by rw [hb]; rfl) c6)
theorem c_X5_of {M : Pl} {b k : Nat} {v : Int32} {w : Wd} (f : Nat) (hv : v = nI f) (hk : k < 12) (hf : f < 8) : K_X5_of [.ref b, .int (nI k), .int v] (ms w b M) (RI (sF (M 0) k f) (ms w b M)) := by
  subst hv
  refine Con.mk [some (.ref b), some (.int (nI k)), some (.int (nI f))] (by decide) rfl rfl (Nat.le_of_ble_eq_true rfl) (fun X h hR hnm => ?_)
  have e : (29 : Int32) + 8 * nI k + nI f = nI (29 + 8 * k + f) := by rw [lit, lit, pk_mul, nI_add, nI_add]
  refine V.aload0 h 1 dX5_of_0 rfl (V.gX5 h 0 4 dX5_of_1 rfl rfl k544 mo rfl (V.bipush h 6 dX5_of_4 rfl ic2_29 (V.bipush h 8 dX5_of_6 rfl ic2_8 (V.iload1 h 9 dX5_of_8 rfl (V.imul h 10 dX5_of_9 rfl (V.iadd h 11 dX5_of_10 rfl (V.iload2 h 12 dX5_of_11 rfl ?_)))))))
  refine V.iadd h 13 dX5_of_12 rfl ?_
  rw [e]
  refine V.iald h 14 dX5_of_13 rfl ma1 (vp_in_nI (by omega) (by decide)) ?_
  refine V.iret h hR dX5_of_14 ?_
  exact RI_r (by rw [nI_tn (by omega)]; rfl)
theorem c_X5_goal {M : Pl} {b j : Nat} {w : Wd} (hj : j < 4) : K_X5_goal [.ref b, .int (nI j)] (ms w b M) (RI (vP (M 0) 1 j) (ms w b M)) := by
  refine Con.mk [some (.ref b), some (.int (nI j))] (by decide) rfl rfl (Nat.le_of_ble_eq_true rfl) (fun X h hR hnm => ?_)
  have e : (5 : Int32) + 2 * nI j = nI (5 + 2 * j) := by rw [lit, lit, pk_mul, nI_add]
  refine V.aload0 h 1 dX5_goal_0 rfl (V.gX5 h 0 4 dX5_goal_1 rfl rfl k544 mo rfl (V.iconst h 5 dX5_goal_4 rfl ic1_5 (V.iconst h 6 dX5_goal_5 rfl ic1_2 (V.iload1 h 7 dX5_goal_6 rfl (V.imul h 8 dX5_goal_7 rfl (V.iadd h 9 dX5_goal_8 rfl ?_))))))
  rw [e]
  refine V.iald h 10 dX5_goal_9 rfl ma1 (vp_in_nI (by omega) (by decide)) ?_
  refine V.iret h hR dX5_goal_10 ?_
  exact RI_r (by rw [nI_tn (by omega)]; rfl)
theorem c_X5_isClosed {M : Pl} {b j : Nat} {w : Wd} (hj : j < 4) : K_X5_isClosed [.ref b, .int (nI j)] (ms w b M) (RI (bI (decide (M 0 (5 + 2 * j + 1) = 1))) (ms w b M)) := by
  refine Con.mk [some (.ref b), some (.int (nI j))] (by decide) rfl rfl (Nat.le_of_ble_eq_true rfl) (fun X h hR hnm => ?_)
  have e : (5 : Int32) + 2 * nI j + 1 = nI (5 + 2 * j + 1) := by rw [lit, lit, lit, pk_mul, nI_add, nI_add]
  refine V.aload0 h 1 dX5_isClosed_0 rfl (V.gX5 h 0 4 dX5_isClosed_1 rfl rfl k544 mo rfl (V.iconst h 5 dX5_isClosed_4 rfl ic1_5 (V.iconst h 6 dX5_isClosed_5 rfl ic1_2 (V.iload1 h 7 dX5_isClosed_6 rfl (V.imul h 8 dX5_isClosed_7 rfl (V.iadd h 9 dX5_isClosed_8 rfl (V.iconst h 10 dX5_isClosed_9 rfl ic1_1 ?_)))))))
  refine V.iadd h 11 dX5_isClosed_10 rfl ?_
  rw [e]
  refine V.iald h 12 dX5_isClosed_11 rfl ma1 (vp_in_nI (by omega) (by decide)) ?_
  rw [nI_tn (by omega)]
  refine V.iconst h 13 dX5_isClosed_12 rfl ic1_1 ?_
  refine V.icmp_ne h 20 16 dX5_isClosed_13 rfl rfl (fun c13 => ?_) (fun c13 => ?_)
  · refine V.iconst h 21 dX5_isClosed_20 rfl ic1_0 ?_
    refine V.zret h hR (by first | exact bI_z _ | rfl) dX5_isClosed_21 ?_
    first | exact RI_t (by simp [c13]) | exact RI_f (by simp [c13])
  · refine V.iconst h 17 dX5_isClosed_16 rfl ic1_1 (V.goto h 21 dX5_isClosed_17 rfl ?_)
    refine V.zret h hR (by first | exact bI_z _ | rfl) dX5_isClosed_21 ?_
    first | exact RI_t (by simp [c13]) | exact RI_f (by simp [c13])
theorem c_X5_isProject {M : Pl} {b : Nat} {v : Int32} {w : Wd} : K_X5_isProject [.ref b, .int v] (ms w b M) (RI (bI (decide (0 ≤ v) && decide (v ≤ M 0 0 - 1))) (ms w b M)) := by
  refine Con.mk [some (.ref b), some (.int v)] (by decide) rfl rfl (Nat.le_of_ble_eq_true rfl) (fun X h hR hnm => ?_)
  refine V.iload1 h 1 dX5_isProject_0 rfl (V.iconst h 2 dX5_isProject_1 rfl ic1_0 (V.aload0 h 3 dX5_isProject_2 rfl (V.gX5 h 0 6 dX5_isProject_3 rfl rfl k544 mo rfl (V.iconst h 7 dX5_isProject_6 rfl ic1_0 (V.iald h 8 dX5_isProject_7 rfl ma1 (vp_in_nI (n := 0) (by decide) (by decide)) (V.iconst h 9 dX5_isProject_8 rfl ic1_1 (V.isub h 10 dX5_isProject_9 rfl ?_)))))))
  refine V.callSf (As := [.int _, .int _, .int _]) (st := []) h 13 dX5_isProject_10 rfl k604 k602 k603 k6 hd_X5_in ⟨(Nat.le_of_ble_eq_true rfl), (Nat.le_of_ble_eq_true rfl)⟩ (Nat.le_of_ble_eq_true rfl) ⟨Nat.zero_le _, Nat.zero_le _⟩ c_X5_in rfl ?_
  refine V.zret h hR (by first | exact bI_z _ | rfl) dX5_isProject_13 ?_
  exact RI_r rfl
theorem c_X5_isPerson {M : Pl} {b : Nat} {v : Int32} {w : Wd} : K_X5_isPerson [.ref b, .int v] (ms w b M) (RI (bI (decide (0 ≤ v) && decide (v ≤ M 0 1 - 1))) (ms w b M)) := by
  refine Con.mk [some (.ref b), some (.int v)] (by decide) rfl rfl (Nat.le_of_ble_eq_true rfl) (fun X h hR hnm => ?_)
  refine V.iload1 h 1 dX5_isPerson_0 rfl (V.iconst h 2 dX5_isPerson_1 rfl ic1_0 (V.aload0 h 3 dX5_isPerson_2 rfl (V.gX5 h 0 6 dX5_isPerson_3 rfl rfl k544 mo rfl (V.iconst h 7 dX5_isPerson_6 rfl ic1_1 (V.iald h 8 dX5_isPerson_7 rfl ma1 (vp_in_nI (n := 1) (by decide) (by decide)) (V.iconst h 9 dX5_isPerson_8 rfl ic1_1 (V.isub h 10 dX5_isPerson_9 rfl ?_)))))))
  refine V.callSf (As := [.int _, .int _, .int _]) (st := []) h 13 dX5_isPerson_10 rfl k604 k602 k603 k6 hd_X5_in ⟨(Nat.le_of_ble_eq_true rfl), (Nat.le_of_ble_eq_true rfl)⟩ (Nat.le_of_ble_eq_true rfl) ⟨Nat.zero_le _, Nat.zero_le _⟩ c_X5_in rfl ?_
  refine V.zret h hR (by first | exact bI_z _ | rfl) dX5_isPerson_13 ?_
  exact RI_r rfl
theorem c_X5_isPledge_in {M : Pl} {b k : Nat} {w : Wd} (hk : k < 12) : K_X5_isPledge [.ref b, .int (nI k)] (ms w b M) (RI (bI (sThere (M 0) k)) (ms w b M)) := by
  refine Con.mk [some (.ref b), some (.int (nI k))] (by decide) rfl rfl (Nat.le_of_ble_eq_true rfl) (fun X h hR hnm => ?_)
  have hin : (decide ((0 : Int32) ≤ nI k) && decide (nI k ≤ 11)) = true := by
    have h2 : nI k ≤ (11 : Int32) := show nI k ≤ nI 11 from nI_le (by omega) (by decide)
    rw [decide_eq_true (nI_pos' (by omega)), decide_eq_true h2]; rfl
  refine V.iload1 h 1 dX5_isPledge_0 rfl (V.iconst h 2 dX5_isPledge_1 rfl ic1_0 (V.bipush h 4 dX5_isPledge_2 rfl ic2_11 (V.callSf (As := [.int _, .int _, .int _]) (st := []) h 7 dX5_isPledge_4 rfl k604 k602 k603 k6 hd_X5_in ⟨(Nat.le_of_ble_eq_true rfl), (Nat.le_of_ble_eq_true rfl)⟩ (Nat.le_of_ble_eq_true rfl) ⟨Nat.zero_le _, Nat.zero_le _⟩ c_X5_in rfl ?_)))
  rw [hin]
  refine V.bif_eq h 24 10 dX5_isPledge_7 rfl rfl (fun q => absurd q (by decide)) (fun _ => ?_)
  refine V.aload0 h 11 dX5_isPledge_10 rfl (V.iload1 h 12 dX5_isPledge_11 rfl (V.iconst h 13 dX5_isPledge_12 rfl ic1_0 (V.callVf (As := [.int _, .int _]) (st := []) h 16 dX5_isPledge_13 rfl k648 k645 k647 ks63 k6 hd_X5_of ⟨(Nat.le_of_ble_eq_true rfl), (Nat.le_of_ble_eq_true rfl)⟩ (Nat.le_of_ble_eq_true rfl) mo rfl rfl ⟨Nat.zero_le _, Nat.zero_le _⟩ (c_X5_of 0 rfl hk (by decide)) rfl (V.iconst h 17 dX5_isPledge_16 rfl ic1_1 ?_))))
  refine V.icmp_ne h 24 20 dX5_isPledge_17 rfl rfl (fun c17 => ?_) (fun c17 => ?_)
  · refine V.iconst h 25 dX5_isPledge_24 rfl ic1_0 ?_
    refine V.zret h hR (by first | exact bI_z _ | rfl) dX5_isPledge_25 ?_
    first | exact RI_t (by simp [sThere, c17]) | exact RI_f (by simp [sThere, c17])
  · refine V.iconst h 21 dX5_isPledge_20 rfl ic1_1 (V.goto h 25 dX5_isPledge_21 rfl ?_)
    refine V.zret h hR (by first | exact bI_z _ | rfl) dX5_isPledge_25 ?_
    first | exact RI_t (by simp [sThere, c17]) | exact RI_f (by simp [sThere, c17])
