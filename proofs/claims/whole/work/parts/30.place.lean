/-! the class: a place, told -/
theorem c_X2_pledges {w : Wd} {p : Nat} {P : Pl} (hP : PlaceAt w p P) : K_X2_pledges [.ref p] w (RI (live P) w) := by
  refine Con.mk [some (.ref p)] (by decide) rfl rfl (Nat.le_of_ble_eq_true rfl) (fun X h hR hnm => ?_)
  refine V.aload0 h 1 dX2_pledges_0 rfl (V.gX2 h 6 4 dX2_pledges_1 rfl rfl k42 hP.po rfl (V.aload0 h 5 dX2_pledges_4 rfl (V.gX2 h 7 8 dX2_pledges_5 rfl rfl k46 hP.po rfl (V.ior h 9 dX2_pledges_8 rfl ?_))))
  refine V.iret h hR dX2_pledges_9 ?_
  exact ⟨rfl, rfl⟩
def hpj (P : Pl) (v : Int32) : Bool := decide (0 ≤ v) && decide (v < P 0 0)
def hpe (P : Pl) (v : Int32) : Bool := decide (0 ≤ v) && decide (v < P 3 0)
def hpl (P : Pl) (v : Int32) : Bool := decide (0 ≤ v) && (decide (v < 12) && Bt (live P) v.toNatClampNeg)
theorem c_X2_hasProject {w : Wd} {p : Nat} {P : Pl} {v : Int32} (hP : PlaceAt w p P) : K_X2_hasProject [.ref p, .int v] w (RI (bI (hpj P v)) w) := by
  refine Con.mk [some (.ref p), some (.int v)] (by decide) rfl rfl (Nat.le_of_ble_eq_true rfl) (fun X h hR hnm => ?_)
  refine V.iload1 h 1 dX2_hasProject_0 rfl ?_
  refine V.if_lt h 16 4 dX2_hasProject_1 rfl rfl (fun c1 => ?_) (fun c1 => ?_)
  · refine V.iconst h 17 dX2_hasProject_16 rfl ic1_0 ?_
    refine V.zret h hR (by first | exact bI_z _ | rfl) dX2_hasProject_17 ?_
    first | exact RI_t (by unfold hpj; rw [decide_eq_true (nlt c1), decide_eq_true (nle c9)]; rfl) | exact RI_f (by unfold hpj; rw [decide_eq_false (lt_n c1)]; rfl) | exact RI_f (by unfold hpj; rw [decide_eq_false (le_n c9), Bool.and_false])
  · refine V.iload1 h 5 dX2_hasProject_4 rfl (V.aload0 h 6 dX2_hasProject_5 rfl (V.gX2 h 0 9 dX2_hasProject_6 rfl rfl k23 hP.po rfl ?_))
    refine V.icmp_ge h 16 12 dX2_hasProject_9 rfl rfl (fun c9 => ?_) (fun c9 => ?_)
    · refine V.iconst h 17 dX2_hasProject_16 rfl ic1_0 ?_
      refine V.zret h hR (by first | exact bI_z _ | rfl) dX2_hasProject_17 ?_
      first | exact RI_t (by unfold hpj; rw [decide_eq_true (nlt c1), decide_eq_true (nle c9)]; rfl) | exact RI_f (by unfold hpj; rw [decide_eq_false (lt_n c1)]; rfl) | exact RI_f (by unfold hpj; rw [decide_eq_false (le_n c9), Bool.and_false])
    · refine V.iconst h 13 dX2_hasProject_12 rfl ic1_1 (V.goto h 17 dX2_hasProject_13 rfl ?_)
      refine V.zret h hR (by first | exact bI_z _ | rfl) dX2_hasProject_17 ?_
      first | exact RI_t (by unfold hpj; rw [decide_eq_true (nlt c1), decide_eq_true (nle c9)]; rfl) | exact RI_f (by unfold hpj; rw [decide_eq_false (lt_n c1)]; rfl) | exact RI_f (by unfold hpj; rw [decide_eq_false (le_n c9), Bool.and_false])
theorem c_X2_hasPerson {w : Wd} {p : Nat} {P : Pl} {v : Int32} (hP : PlaceAt w p P) : K_X2_hasPerson [.ref p, .int v] w (RI (bI (hpe P v)) w) := by
  refine Con.mk [some (.ref p), some (.int v)] (by decide) rfl rfl (Nat.le_of_ble_eq_true rfl) (fun X h hR hnm => ?_)
  refine V.iload1 h 1 dX2_hasPerson_0 rfl ?_
  refine V.if_lt h 16 4 dX2_hasPerson_1 rfl rfl (fun c1 => ?_) (fun c1 => ?_)
  · refine V.iconst h 17 dX2_hasPerson_16 rfl ic1_0 ?_
    refine V.zret h hR (by first | exact bI_z _ | rfl) dX2_hasPerson_17 ?_
    first | exact RI_t (by unfold hpe; rw [decide_eq_true (nlt c1), decide_eq_true (nle c9)]; rfl) | exact RI_f (by unfold hpe; rw [decide_eq_false (lt_n c1)]; rfl) | exact RI_f (by unfold hpe; rw [decide_eq_false (le_n c9), Bool.and_false])
  · refine V.iload1 h 5 dX2_hasPerson_4 rfl (V.aload0 h 6 dX2_hasPerson_5 rfl (V.gX2 h 3 9 dX2_hasPerson_6 rfl rfl k33 hP.po rfl ?_))
    refine V.icmp_ge h 16 12 dX2_hasPerson_9 rfl rfl (fun c9 => ?_) (fun c9 => ?_)
    · refine V.iconst h 17 dX2_hasPerson_16 rfl ic1_0 ?_
      refine V.zret h hR (by first | exact bI_z _ | rfl) dX2_hasPerson_17 ?_
      first | exact RI_t (by unfold hpe; rw [decide_eq_true (nlt c1), decide_eq_true (nle c9)]; rfl) | exact RI_f (by unfold hpe; rw [decide_eq_false (lt_n c1)]; rfl) | exact RI_f (by unfold hpe; rw [decide_eq_false (le_n c9), Bool.and_false])
    · refine V.iconst h 13 dX2_hasPerson_12 rfl ic1_1 (V.goto h 17 dX2_hasPerson_13 rfl ?_)
      refine V.zret h hR (by first | exact bI_z _ | rfl) dX2_hasPerson_17 ?_
      first | exact RI_t (by unfold hpe; rw [decide_eq_true (nlt c1), decide_eq_true (nle c9)]; rfl) | exact RI_f (by unfold hpe; rw [decide_eq_false (lt_n c1)]; rfl) | exact RI_f (by unfold hpe; rw [decide_eq_false (le_n c9), Bool.and_false])
theorem c_X2_hasPledge {w : Wd} {p : Nat} {P : Pl} {v : Int32} (hP : PlaceAt w p P) : K_X2_hasPledge [.ref p, .int v] w (RI (bI (hpl P v)) w) := by
  by_cases hr : ∃ k, k < 12 ∧ v = nI k
  · obtain ⟨k, hk, rfl⟩ := hr
    have e : hpl P (nI k) = Bt (live P) k := by
      have h12 : nI k < (12 : Int32) := show nI k < nI 12 from nI_lt hk (by decide)
      unfold hpl
      rw [decide_eq_true (nI_pos' (by omega)), decide_eq_true h12, nI_tn (by omega)]; rfl
    rw [e]
    refine Con.mk [some (.ref p), some (.int (nI k))] (by decide) rfl rfl (Nat.le_of_ble_eq_true rfl) (fun X h hR hnm => ?_)
    refine V.iload1 h 1 dX2_hasPledge_0 rfl ?_
    refine V.if_lt h 25 4 dX2_hasPledge_1 rfl rfl (fun q => absurd q (nI_pos (by omega))) (fun _ => ?_)
    refine V.iload1 h 5 dX2_hasPledge_4 rfl (V.bipush h 7 dX2_hasPledge_5 rfl ic2_12 ?_)
    refine V.icmp_ge h 25 10 dX2_hasPledge_7 rfl rfl (fun q => absurd q (lp_in (n := 12) (by omega))) (fun _ => ?_)
    refine V.aload0 h 11 dX2_hasPledge_10 rfl (V.callVf (As := []) (st := []) h 14 dX2_hasPledge_11 rfl k285 k282 k284 ks11 k2 hd_X2_pledges ⟨(Nat.le_of_ble_eq_true rfl), (Nat.le_of_ble_eq_true rfl)⟩ (Nat.le_of_ble_eq_true rfl) hP.po rfl rfl ⟨Nat.zero_le _, Nat.zero_le _⟩ (c_X2_pledges hP) rfl (V.iload1 h 15 dX2_hasPledge_14 rfl (V.ishr h 16 dX2_hasPledge_15 rfl (V.iconst h 17 dX2_hasPledge_16 rfl ic1_1 (V.iand h 18 dX2_hasPledge_17 rfl ?_)))))
    rw [tst (live P) (show k < 32 by omega)]
    refine V.bif_eq h 25 21 dX2_hasPledge_18 rfl rfl (fun c18 => ?_) (fun c18 => ?_)
    · refine V.iconst h 26 dX2_hasPledge_25 rfl ic1_0 ?_
      refine V.zret h hR (by first | exact bI_z _ | rfl) dX2_hasPledge_26 ?_
      first | exact RI_t c18 | exact RI_f c18
    · refine V.iconst h 22 dX2_hasPledge_21 rfl ic1_1 (V.goto h 26 dX2_hasPledge_22 rfl ?_)
      refine V.zret h hR (by first | exact bI_z _ | rfl) dX2_hasPledge_26 ?_
      first | exact RI_t c18 | exact RI_f c18
  · have e : hpl P v = false := by
      unfold hpl
      by_cases h0 : (0 : Int32) ≤ v
      · by_cases h1 : v < 12
        · exfalso
          obtain ⟨j, hj, e⟩ := nI_of_lt (n := 12) (by decide) (le_n h0) h1
          exact hr ⟨j, hj, e⟩
        · rw [decide_eq_false h1, Bool.false_and, Bool.and_false]
      · rw [decide_eq_false h0]; rfl
    rw [e]
    refine Con.mk [some (.ref p), some (.int v)] (by decide) rfl rfl (Nat.le_of_ble_eq_true rfl) (fun X h hR hnm => ?_)
    refine V.iload1 h 1 dX2_hasPledge_0 rfl ?_
    refine V.if_lt h 25 4 dX2_hasPledge_1 rfl rfl (fun c1 => ?_) (fun c1 => ?_)
    · refine V.iconst h 26 dX2_hasPledge_25 rfl ic1_0 ?_
      refine V.zret h hR (by first | exact bI_z _ | rfl) dX2_hasPledge_26 ?_
      exact RI_f rfl
    · refine V.iload1 h 5 dX2_hasPledge_4 rfl (V.bipush h 7 dX2_hasPledge_5 rfl ic2_12 ?_)
      refine V.icmp_ge h 25 10 dX2_hasPledge_7 rfl rfl (fun c7 => ?_) (fun c7 => ?_)
      · refine V.iconst h 26 dX2_hasPledge_25 rfl ic1_0 ?_
        refine V.zret h hR (by first | exact bI_z _ | rfl) dX2_hasPledge_26 ?_
        exact RI_f rfl
      · exfalso
        obtain ⟨j, hj, e⟩ := nI_of_lt (n := 12) (by decide) c1 (nle c7)
        exact hr ⟨j, hj, e⟩
theorem c_X2_isClosed {w : Wd} {p j : Nat} {P : Pl} (hP : PlaceAt w p P) (hj : j < 32) : K_X2_isClosed [.ref p, .int (nI j)] w (RI (bI (Bt (P 2 0) j)) w) := by
  refine Con.mk [some (.ref p), some (.int (nI j))] (by decide) rfl rfl (Nat.le_of_ble_eq_true rfl) (fun X h hR hnm => ?_)
  refine V.aload0 h 1 dX2_isClosed_0 rfl (V.gX2 h 2 4 dX2_isClosed_1 rfl rfl k30 hP.po rfl (V.iload1 h 5 dX2_isClosed_4 rfl (V.ishr h 6 dX2_isClosed_5 rfl (V.iconst h 7 dX2_isClosed_6 rfl ic1_1 (V.iand h 8 dX2_isClosed_7 rfl ?_)))))
  rw [tst (P 2 0) hj]
  refine V.bif_eq h 15 11 dX2_isClosed_8 rfl rfl (fun c8 => ?_) (fun c8 => ?_)
  · refine V.iconst h 16 dX2_isClosed_15 rfl ic1_0 ?_
    refine V.zret h hR (by first | exact bI_z _ | rfl) dX2_isClosed_16 ?_
    first | exact RI_t c8 | exact RI_f c8
  · refine V.iconst h 12 dX2_isClosed_11 rfl ic1_1 (V.goto h 16 dX2_isClosed_12 rfl ?_)
    refine V.zret h hR (by first | exact bI_z _ | rfl) dX2_isClosed_16 ?_
    first | exact RI_t c8 | exact RI_f c8
theorem forP_eq (P : Pl) (v : Int32) : mk (fun k => decide (P 9 k = v)) 12 &&& live P = forP P v := by
  refine lo12_ext (lo12_and _ (lo12_mk _)) (lo12_mk _) fun k hk => ?_
  unfold forP
  rw [bt_and, bt_mk _ _ _ (by decide), bt_mk _ _ _ (by decide)]
  cases Bt (live P) k <;> simp [hk]
theorem ofP_eq (P : Pl) (v : Int32) : mk (fun k => decide (P 8 k = v)) 12 &&& live P = ofP P v := by
  refine lo12_ext (lo12_and _ (lo12_mk _)) (lo12_mk _) fun k hk => ?_
  unfold ofP
  rw [bt_and, bt_mk _ _ _ (by decide), bt_mk _ _ _ (by decide)]
  cases Bt (live P) k <;> simp [hk]
def uptoP (P : Pl) (t : Int32) : Int32 := mk (fun k => decide (P 13 k ≤ t)) 12 &&& live P
theorem c_X2_pledgesFor {w : Wd} {p : Nat} {P : Pl} {v : Int32} (hP : PlaceAt w p P) : K_X2_pledgesFor [.ref p, .int v] w (RI (forP P v) w) := by
  refine Con.mk [some (.ref p), some (.int v), none, none] (by decide) rfl rfl (Nat.le_of_ble_eq_true rfl) (fun X h hR hnm => ?_)
  have L : ∀ (d n : Nat) (t : Int32), n + d = 12 → t = mk (fun k => decide (P 9 k = v)) n → V X 0 0 4 [some (.ref p), some (.int v), some (.int t), some (.int (nI n))] [] w := by
    intro d
    induction d with
    | zero =>
      intro n t hnd ht
      obtain rfl : n = 12 := by omega
      refine V.iload3 h 5 dX2_pledgesFor_4 rfl (V.bipush h 7 dX2_pledgesFor_5 rfl ic2_12 ?_)
      refine V.icmp_ge h 32 10 dX2_pledgesFor_7 rfl rfl (fun _ => ?_) (fun q => absurd (lp_out (n := 12)) q)
      refine V.iload2 h 33 dX2_pledgesFor_32 rfl (V.aload0 h 34 dX2_pledgesFor_33 rfl (V.callVf (As := []) (st := [.int _]) h 37 dX2_pledgesFor_34 rfl k285 k282 k284 ks11 k2 hd_X2_pledges ⟨(Nat.le_of_ble_eq_true rfl), (Nat.le_of_ble_eq_true rfl)⟩ (Nat.le_of_ble_eq_true rfl) hP.po rfl rfl ⟨Nat.zero_le _, Nat.zero_le _⟩ (c_X2_pledges hP) rfl (V.iand h 38 dX2_pledgesFor_37 rfl ?_)))
      refine V.iret h hR dX2_pledgesFor_38 ?_
      exact RI_r (by rw [ht, forP_eq])
    | succ d ih =>
      intro n t hnd ht
      refine V.iload3 h 5 dX2_pledgesFor_4 rfl (V.bipush h 7 dX2_pledgesFor_5 rfl ic2_12 ?_)
      refine V.icmp_ge h 32 10 dX2_pledgesFor_7 rfl rfl (fun q => absurd q (lp_in (n := 12) (by omega))) (fun _ => ?_)
      refine V.aload0 h 11 dX2_pledgesFor_10 rfl (V.gX2 h 9 14 dX2_pledgesFor_11 rfl rfl k54 hP.po rfl (V.iload3 h 15 dX2_pledgesFor_14 rfl (V.ialdN h 16 dX2_pledgesFor_15 rfl hP.pa5 (by omega) (by decide) (V.iload1 h 17 dX2_pledgesFor_16 rfl ?_))))
      refine V.icmp_ne h 26 20 dX2_pledgesFor_17 rfl rfl (fun c17 => ?_) (fun c17 => ?_)
      · refine V.incN3 h 29 dX2_pledgesFor_26 rfl rfl (V.goto h 4 dX2_pledgesFor_29 rfl ?_)
        first | exact ih (n + 1) _ (by omega) (mkt ht (decide_eq_true c17)) | exact ih (n + 1) _ (by omega) (mkf ht (decide_eq_false c17))
      · refine V.iload2 h 21 dX2_pledgesFor_20 rfl (V.iconst h 22 dX2_pledgesFor_21 rfl ic1_1 (V.iload3 h 23 dX2_pledgesFor_22 rfl (V.ishl h 24 dX2_pledgesFor_23 rfl (V.ior h 25 dX2_pledgesFor_24 rfl (V.istore2 h 26 dX2_pledgesFor_25 rfl rfl (V.incN3 h 29 dX2_pledgesFor_26 rfl rfl (V.goto h 4 dX2_pledgesFor_29 rfl ?_)))))))
        first | exact ih (n + 1) _ (by omega) (mkt ht (decide_eq_true c17)) | exact ih (n + 1) _ (by omega) (mkf ht (decide_eq_false c17))
  refine V.iconst h 1 dX2_pledgesFor_0 rfl ic1_0 (V.istore2 h 2 dX2_pledgesFor_1 rfl rfl (V.iconst h 3 dX2_pledgesFor_2 rfl ic1_0 (V.istore3 h 4 dX2_pledgesFor_3 rfl rfl ?_)))
  exact L 12 0 0 rfl rfl
theorem c_X2_pledgesOf {w : Wd} {p : Nat} {P : Pl} {v : Int32} (hP : PlaceAt w p P) : K_X2_pledgesOf [.ref p, .int v] w (RI (ofP P v) w) := by
  refine Con.mk [some (.ref p), some (.int v), none, none] (by decide) rfl rfl (Nat.le_of_ble_eq_true rfl) (fun X h hR hnm => ?_)
  have L : ∀ (d n : Nat) (t : Int32), n + d = 12 → t = mk (fun k => decide (P 8 k = v)) n → V X 0 0 4 [some (.ref p), some (.int v), some (.int t), some (.int (nI n))] [] w := by
    intro d
    induction d with
    | zero =>
      intro n t hnd ht
      obtain rfl : n = 12 := by omega
      refine V.iload3 h 5 dX2_pledgesOf_4 rfl (V.bipush h 7 dX2_pledgesOf_5 rfl ic2_12 ?_)
      refine V.icmp_ge h 32 10 dX2_pledgesOf_7 rfl rfl (fun _ => ?_) (fun q => absurd (lp_out (n := 12)) q)
      refine V.iload2 h 33 dX2_pledgesOf_32 rfl (V.aload0 h 34 dX2_pledgesOf_33 rfl (V.callVf (As := []) (st := [.int _]) h 37 dX2_pledgesOf_34 rfl k285 k282 k284 ks11 k2 hd_X2_pledges ⟨(Nat.le_of_ble_eq_true rfl), (Nat.le_of_ble_eq_true rfl)⟩ (Nat.le_of_ble_eq_true rfl) hP.po rfl rfl ⟨Nat.zero_le _, Nat.zero_le _⟩ (c_X2_pledges hP) rfl (V.iand h 38 dX2_pledgesOf_37 rfl ?_)))
      refine V.iret h hR dX2_pledgesOf_38 ?_
      exact RI_r (by rw [ht, ofP_eq])
    | succ d ih =>
      intro n t hnd ht
      refine V.iload3 h 5 dX2_pledgesOf_4 rfl (V.bipush h 7 dX2_pledgesOf_5 rfl ic2_12 ?_)
      refine V.icmp_ge h 32 10 dX2_pledgesOf_7 rfl rfl (fun q => absurd q (lp_in (n := 12) (by omega))) (fun _ => ?_)
      refine V.aload0 h 11 dX2_pledgesOf_10 rfl (V.gX2 h 8 14 dX2_pledgesOf_11 rfl rfl k50 hP.po rfl (V.iload3 h 15 dX2_pledgesOf_14 rfl (V.ialdN h 16 dX2_pledgesOf_15 rfl hP.pa4 (by omega) (by decide) (V.iload1 h 17 dX2_pledgesOf_16 rfl ?_))))
      refine V.icmp_ne h 26 20 dX2_pledgesOf_17 rfl rfl (fun c17 => ?_) (fun c17 => ?_)
      · refine V.incN3 h 29 dX2_pledgesOf_26 rfl rfl (V.goto h 4 dX2_pledgesOf_29 rfl ?_)
        first | exact ih (n + 1) _ (by omega) (mkt ht (decide_eq_true c17)) | exact ih (n + 1) _ (by omega) (mkf ht (decide_eq_false c17))
      · refine V.iload2 h 21 dX2_pledgesOf_20 rfl (V.iconst h 22 dX2_pledgesOf_21 rfl ic1_1 (V.iload3 h 23 dX2_pledgesOf_22 rfl (V.ishl h 24 dX2_pledgesOf_23 rfl (V.ior h 25 dX2_pledgesOf_24 rfl (V.istore2 h 26 dX2_pledgesOf_25 rfl rfl (V.incN3 h 29 dX2_pledgesOf_26 rfl rfl (V.goto h 4 dX2_pledgesOf_29 rfl ?_)))))))
        first | exact ih (n + 1) _ (by omega) (mkt ht (decide_eq_true c17)) | exact ih (n + 1) _ (by omega) (mkf ht (decide_eq_false c17))
  refine V.iconst h 1 dX2_pledgesOf_0 rfl ic1_0 (V.istore2 h 2 dX2_pledgesOf_1 rfl rfl (V.iconst h 3 dX2_pledgesOf_2 rfl ic1_0 (V.istore3 h 4 dX2_pledgesOf_3 rfl rfl ?_)))
  exact L 12 0 0 rfl rfl
theorem c_X2_pledgesUpTo {w : Wd} {p : Nat} {P : Pl} {v : Int32} (hP : PlaceAt w p P) : K_X2_pledgesUpTo [.ref p, .int v] w (RI (uptoP P v) w) := by
  refine Con.mk [some (.ref p), some (.int v), none, none] (by decide) rfl rfl (Nat.le_of_ble_eq_true rfl) (fun X h hR hnm => ?_)
  have L : ∀ (d n : Nat) (t : Int32), n + d = 12 → t = mk (fun k => decide (P 13 k ≤ v)) n → V X 0 0 4 [some (.ref p), some (.int v), some (.int t), some (.int (nI n))] [] w := by
    intro d
    induction d with
    | zero =>
      intro n t hnd ht
      obtain rfl : n = 12 := by omega
      refine V.iload3 h 5 dX2_pledgesUpTo_4 rfl (V.bipush h 7 dX2_pledgesUpTo_5 rfl ic2_12 ?_)
      refine V.icmp_ge h 32 10 dX2_pledgesUpTo_7 rfl rfl (fun _ => ?_) (fun q => absurd (lp_out (n := 12)) q)
      refine V.iload2 h 33 dX2_pledgesUpTo_32 rfl (V.aload0 h 34 dX2_pledgesUpTo_33 rfl (V.callVf (As := []) (st := [.int _]) h 37 dX2_pledgesUpTo_34 rfl k285 k282 k284 ks11 k2 hd_X2_pledges ⟨(Nat.le_of_ble_eq_true rfl), (Nat.le_of_ble_eq_true rfl)⟩ (Nat.le_of_ble_eq_true rfl) hP.po rfl rfl ⟨Nat.zero_le _, Nat.zero_le _⟩ (c_X2_pledges hP) rfl (V.iand h 38 dX2_pledgesUpTo_37 rfl ?_)))
      refine V.iret h hR dX2_pledgesUpTo_38 ?_
      exact RI_r (by rw [ht]; rfl)
    | succ d ih =>
      intro n t hnd ht
      refine V.iload3 h 5 dX2_pledgesUpTo_4 rfl (V.bipush h 7 dX2_pledgesUpTo_5 rfl ic2_12 ?_)
      refine V.icmp_ge h 32 10 dX2_pledgesUpTo_7 rfl rfl (fun q => absurd q (lp_in (n := 12) (by omega))) (fun _ => ?_)
      refine V.aload0 h 11 dX2_pledgesUpTo_10 rfl (V.gX2 h 13 14 dX2_pledgesUpTo_11 rfl rfl k70 hP.po rfl (V.iload3 h 15 dX2_pledgesUpTo_14 rfl (V.ialdN h 16 dX2_pledgesUpTo_15 rfl hP.pa9 (by omega) (by decide) (V.iload1 h 17 dX2_pledgesUpTo_16 rfl ?_))))
      refine V.icmp_gt h 26 20 dX2_pledgesUpTo_17 rfl rfl (fun c17 => ?_) (fun c17 => ?_)
      · refine V.incN3 h 29 dX2_pledgesUpTo_26 rfl rfl (V.goto h 4 dX2_pledgesUpTo_29 rfl ?_)
        first | exact ih (n + 1) _ (by omega) (mkt ht (decide_eq_true (nlt c17))) | exact ih (n + 1) _ (by omega) (mkf ht (decide_eq_false (lt_n c17)))
      · refine V.iload2 h 21 dX2_pledgesUpTo_20 rfl (V.iconst h 22 dX2_pledgesUpTo_21 rfl ic1_1 (V.iload3 h 23 dX2_pledgesUpTo_22 rfl (V.ishl h 24 dX2_pledgesUpTo_23 rfl (V.ior h 25 dX2_pledgesUpTo_24 rfl (V.istore2 h 26 dX2_pledgesUpTo_25 rfl rfl (V.incN3 h 29 dX2_pledgesUpTo_26 rfl rfl (V.goto h 4 dX2_pledgesUpTo_29 rfl ?_)))))))
        first | exact ih (n + 1) _ (by omega) (mkt ht (decide_eq_true (nlt c17))) | exact ih (n + 1) _ (by omega) (mkf ht (decide_eq_false (lt_n c17)))
  refine V.iconst h 1 dX2_pledgesUpTo_0 rfl ic1_0 (V.istore2 h 2 dX2_pledgesUpTo_1 rfl rfl (V.iconst h 3 dX2_pledgesUpTo_2 rfl ic1_0 (V.istore3 h 4 dX2_pledgesUpTo_3 rfl rfl ?_)))
  exact L 12 0 0 rfl rfl
theorem c_X2_sum {w : Wd} {p : Nat} {P : Pl} {S : Int32} (hP : PlaceAt w p P) : K_X2_sum [.ref p, .int S] w (RI (amt P S) w) := by
  refine Con.mk [some (.ref p), some (.int S), none, none] (by decide) rfl rfl (Nat.le_of_ble_eq_true rfl) (fun X h hR hnm => ?_)
  have L : ∀ (d n : Nat) (t : Int32), n + d = 12 → t = sm (fun k => if Bt S k = true then P 10 k else 0) n → V X 0 0 4 [some (.ref p), some (.int S), some (.int t), some (.int (nI n))] [] w := by
    intro d
    induction d with
    | zero =>
      intro n t hnd ht
      obtain rfl : n = 12 := by omega
      refine V.iload3 h 5 dX2_sum_4 rfl (V.bipush h 7 dX2_sum_5 rfl ic2_12 ?_)
      refine V.icmp_ge h 33 10 dX2_sum_7 rfl rfl (fun _ => ?_) (fun q => absurd (lp_out (n := 12)) q)
      refine V.iload2 h 34 dX2_sum_33 rfl ?_
      refine V.iret h hR dX2_sum_34 ?_
      exact RI_r ht
    | succ d ih =>
      intro n t hnd ht
      refine V.iload3 h 5 dX2_sum_4 rfl (V.bipush h 7 dX2_sum_5 rfl ic2_12 ?_)
      refine V.icmp_ge h 33 10 dX2_sum_7 rfl rfl (fun q => absurd q (lp_in (n := 12) (by omega))) (fun _ => ?_)
      refine V.iload1 h 11 dX2_sum_10 rfl (V.iload3 h 12 dX2_sum_11 rfl (V.ishr h 13 dX2_sum_12 rfl (V.iconst h 14 dX2_sum_13 rfl ic1_1 (V.iand h 15 dX2_sum_14 rfl ?_))))
      rw [tst S (show n < 32 by omega)]
      refine V.bif_eq h 27 18 dX2_sum_15 rfl rfl (fun c15 => ?_) (fun c15 => ?_)
      · refine V.incN3 h 30 dX2_sum_27 rfl rfl (V.goto h 4 dX2_sum_30 rfl ?_)
        first | exact ih (n + 1) _ (by omega) (stp0 ht (by rw [if_pos c15])) | exact ih (n + 1) t (by omega) (by rw [ht, sm_s, if_neg (by rw [c15]; decide), Int32.add_zero])
      · refine V.iload2 h 19 dX2_sum_18 rfl (V.aload0 h 20 dX2_sum_19 rfl (V.gX2 h 10 23 dX2_sum_20 rfl rfl k58 hP.po rfl (V.iload3 h 24 dX2_sum_23 rfl (V.ialdN h 25 dX2_sum_24 rfl hP.pa6 (by omega) (by decide) (V.iadd h 26 dX2_sum_25 rfl (V.istore2 h 27 dX2_sum_26 rfl rfl (V.incN3 h 30 dX2_sum_27 rfl rfl ?_)))))))
        refine V.goto h 4 dX2_sum_30 rfl ?_
        first | exact ih (n + 1) _ (by omega) (stp0 ht (by rw [if_pos c15])) | exact ih (n + 1) t (by omega) (by rw [ht, sm_s, if_neg (by rw [c15]; decide), Int32.add_zero])
  refine V.iconst h 1 dX2_sum_0 rfl ic1_0 (V.istore2 h 2 dX2_sum_1 rfl rfl (V.iconst h 3 dX2_sum_2 rfl ic1_0 (V.istore3 h 4 dX2_sum_3 rfl rfl ?_)))
  exact L 12 0 0 rfl rfl
def lfn (P : Pl) : Int32 := if lf (fun k => !Bt (live P) k) 0 12 = -1 then 12 else lf (fun k => !Bt (live P) k) 0 12
theorem hpl_k {P : Pl} {k : Nat} (hk : k < 12) : hpl P (nI k) = Bt (live P) k := by
  have h12 : nI k < (12 : Int32) := show nI k < nI 12 from nI_lt hk (by decide)
  unfold hpl
  rw [decide_eq_true (nI_pos' (by omega)), decide_eq_true h12, nI_tn (by omega)]; rfl
theorem c_X2_lowestFreeNumber {w : Wd} {p : Nat} {P : Pl} (hP : PlaceAt w p P) : K_X2_lowestFreeNumber [.ref p] w (RI (lfn P) w) := by
  refine Con.mk [some (.ref p), none] (by decide) rfl rfl (Nat.le_of_ble_eq_true rfl) (fun X h hR hnm => ?_)
  have L : ∀ (d n : Nat), n + d = 12 → lfn P = (if lf (fun k => !Bt (live P) k) n d = -1 then 12 else lf (fun k => !Bt (live P) k) n d) → V X 0 0 2 [some (.ref p), some (.int (nI n))] [] w := by
    intro d
    induction d with
    | zero =>
      intro n hnd ht
      obtain rfl : n = 12 := by omega
      refine V.iload1 h 3 dX2_lowestFreeNumber_2 rfl (V.bipush h 5 dX2_lowestFreeNumber_3 rfl ic2_12 ?_)
      refine V.icmp_ge h 22 8 dX2_lowestFreeNumber_5 rfl rfl (fun _ => ?_) (fun q => absurd (lp_out (n := 12)) q)
      refine V.iload1 h 23 dX2_lowestFreeNumber_22 rfl ?_
      refine V.iret h hR dX2_lowestFreeNumber_23 ?_
      exact RI_r (by rw [ht]; rfl)
    | succ d ih =>
      intro n hnd ht
      rw [lf] at ht
      refine V.iload1 h 3 dX2_lowestFreeNumber_2 rfl (V.bipush h 5 dX2_lowestFreeNumber_3 rfl ic2_12 ?_)
      refine V.icmp_ge h 22 8 dX2_lowestFreeNumber_5 rfl rfl (fun q => absurd q (lp_in (n := 12) (by omega))) (fun _ => ?_)
      refine V.aload0 h 9 dX2_lowestFreeNumber_8 rfl (V.iload1 h 10 dX2_lowestFreeNumber_9 rfl (V.callVf (As := [.int _]) (st := []) h 13 dX2_lowestFreeNumber_10 rfl k301 k298 k300 ks15 k2 hd_X2_hasPledge ⟨(Nat.le_of_ble_eq_true rfl), (Nat.le_of_ble_eq_true rfl)⟩ (Nat.le_of_ble_eq_true rfl) hP.po rfl rfl ⟨Nat.zero_le _, Nat.zero_le _⟩ (c_X2_hasPledge hP) rfl ?_))
      rw [hpl_k (by omega)]
      refine V.bif_eq h 22 16 dX2_lowestFreeNumber_13 rfl rfl (fun c13 => ?_) (fun c13 => ?_)
      · refine V.iload1 h 23 dX2_lowestFreeNumber_22 rfl ?_
        refine V.iret h hR dX2_lowestFreeNumber_23 ?_
        rw [if_pos (show (!Bt (live P) n) = true by rw [show Bt (live P) n = false from c13]; rfl), if_neg (show ¬ nI n = -1 from fun q => absurd (show nI n < 0 by rw [q]; decide) (nI_pos (by omega)))] at ht
        exact RI_r ht.symm
      · refine V.incN1 h 19 dX2_lowestFreeNumber_16 rfl rfl (V.goto h 2 dX2_lowestFreeNumber_19 rfl ?_)
        rw [if_neg (show ¬ (!Bt (live P) n) = true by rw [show Bt (live P) n = true from c13]; decide)] at ht
        exact ih (n + 1) (by omega) ht
  refine V.iconst h 1 dX2_lowestFreeNumber_0 rfl ic1_0 (V.istore1 h 2 dX2_lowestFreeNumber_1 rfl rfl ?_)
  exact L 12 0 rfl rfl
