/-! the class: what a project reaches -/
theorem RE_t {b : Bool} {S : Wd → Prop} {u : Wd} (h : b = true) (hs : S u) : RE (bI b) S (some (.int 1)) u := ⟨by rw [h]; rfl, hs⟩
theorem RE_f {b : Bool} {S : Wd → Prop} {u : Wd} (h : b = false) (hs : S u) : RE (bI b) S (some (.int 0)) u := ⟨by rw [h]; rfl, hs⟩
theorem amt_for {P : Pl} {T : Int32} {j : Nat} (hT : sb T (live P)) (hj : j < 2 ^ 31) : amt P (forP P (nI j) &&& T) = mny P noX T (nI j) := by
  unfold amt mny
  rw [show noX.1 = (-1 : Int32) from rfl, if_neg (m1_ne hj), Int32.zero_add]
  refine sm_congr fun k hk => ?_
  unfold forP
  rw [bt_and, bt_mk _ _ _ (by decide), decide_eq_true hk, Bool.true_and]
  cases hb : Bt T k
  · simp
  · rw [hT k hb]; simp
theorem c_X1_reaches {w : Wd} {p j q0 : Nat} {P : Pl} {f g : Nat → Int32} {v S C : Int32} (hP0 : PlaceAt w p P) (hd : p + 10 ≤ j ∨ j + 3 ≤ p) (hO : POK P) (hS : sb S (live P)) (hC : sb C (live P)) (hq : q0 < 4) : K_X1_reaches [.ref j, .int (nI q0), .int S, .int C] (jt w p j f g v) (RE (bI (hasG P noX (grt P noX S C ||| C) (nI q0))) (JW w p j)) := by
  refine Con.mk [some (.ref j), some (.int (nI q0)), some (.int S), some (.int C), none] (by decide) rfl rfl (Nat.le_of_ble_eq_true rfl) (fun X h hR hnm => ?_)
  have hP : ∀ f g v, PlaceAt (jt w p j f g v) p P := fun _ _ _ => jt_P hP0 hd
  have e1 : amt P (forP P (nI q0) &&& (grt P noX S C ||| C)) = mny P noX (grt P noX S C ||| C) (nI q0) := amt_for (sb_or (sb_gs 12 hS) hC) (by omega)
  have e2 : hasG P noX (grt P noX S C ||| C) (nI q0) = decide (P 1 q0 ≤ mny P noX (grt P noX S C ||| C) (nI q0)) := by unfold hasG; rw [nI_tn (by omega)]
  refine V.aload0 h 1 dX1_reaches_0 rfl (V.iload2 h 2 dX1_reaches_1 rfl (V.iload3 h 3 dX1_reaches_2 rfl (V.callVe (As := [.int _, .int _]) (st := []) h 6 dX1_reaches_3 rfl k314 k352 k313 ks17 k3 hd_X1_greatest ⟨(Nat.le_of_ble_eq_true rfl), (Nat.le_of_ble_eq_true rfl)⟩ (Nat.le_of_ble_eq_true rfl) jto rfl rfl ⟨Nat.zero_le _, Nat.zero_le _⟩ (c_X1_greatest0 hP0 hd hO hS hC) rfl (fun w3 hw3 => ?_))))
  obtain ⟨f1, g1, v1, rfl⟩ := hw3
  refine V.iload3 h 7 dX1_reaches_6 rfl (V.ior h 8 dX1_reaches_7 rfl (V.istore4 h 10 dX1_reaches_8 rfl rfl (V.aload0 h 11 dX1_reaches_10 rfl (V.gX1 h 0 14 dX1_reaches_11 rfl rfl k126 jto rfl (V.aload0 h 15 dX1_reaches_14 rfl (V.gX1 h 0 18 dX1_reaches_15 rfl rfl k126 jto rfl (V.iload1 h 19 dX1_reaches_18 rfl ?_)))))))
  refine V.callNf (As := [.int _]) (st := [.ref _]) h 22 dX1_reaches_19 rfl k338 k385 k337 ks22 k2 hd_X2_pledgesFor ⟨(Nat.le_of_ble_eq_true rfl), (Nat.le_of_ble_eq_true rfl)⟩ (Nat.le_of_ble_eq_true rfl) (hP _ _ _).po rfl rfl ⟨Nat.zero_le _, Nat.zero_le _⟩ (c_X2_pledgesFor (hP _ _ _)) rfl (V.iload4 h 24 dX1_reaches_22 rfl (V.iand h 25 dX1_reaches_24 rfl (V.callNf (As := [.int _]) (st := []) h 28 dX1_reaches_25 rfl k289 k386 k288 ks12 k2 hd_X2_sum ⟨(Nat.le_of_ble_eq_true rfl), (Nat.le_of_ble_eq_true rfl)⟩ (Nat.le_of_ble_eq_true rfl) (hP _ _ _).po rfl rfl ⟨Nat.zero_le _, Nat.zero_le _⟩ (c_X2_sum (hP _ _ _)) rfl ?_)))
  rw [e1]
  refine V.aload0 h 29 dX1_reaches_28 rfl (V.gX1 h 0 32 dX1_reaches_29 rfl rfl k126 jto rfl (V.gX2N h 1 35 dX1_reaches_32 rfl rfl k28 (hP _ _ _).po rfl (V.iload1 h 36 dX1_reaches_35 rfl (V.ialdN h 37 dX1_reaches_36 rfl (hP _ _ _).pa1 (by omega) (by decide) ?_))))
  refine V.icmp_lt h 44 40 dX1_reaches_37 rfl rfl (fun c37 => ?_) (fun c37 => ?_)
  · refine V.iconst h 45 dX1_reaches_44 rfl ic1_0 ?_
    refine V.zret h hR (by first | exact bI_z _ | rfl) dX1_reaches_45 ?_
    first | exact RE_t (by rw [e2]; exact decide_eq_true (nlt c37)) ⟨f1, g1, v1, rfl⟩ | exact RE_f (by rw [e2]; exact decide_eq_false (lt_n c37)) ⟨f1, g1, v1, rfl⟩
  · refine V.iconst h 41 dX1_reaches_40 rfl ic1_1 (V.goto h 45 dX1_reaches_41 rfl ?_)
    refine V.zret h hR (by first | exact bI_z _ | rfl) dX1_reaches_45 ?_
    first | exact RE_t (by rw [e2]; exact decide_eq_true (nlt c37)) ⟨f1, g1, v1, rfl⟩ | exact RE_f (by rw [e2]; exact decide_eq_false (lt_n c37)) ⟨f1, g1, v1, rfl⟩
def sbo {P : Pl} := sb_op P
theorem std_0 (P : Pl) (x : Ex) : std P x 0 = grt P x (P 6 0) (P 7 0) ||| P 7 0 := by unfold std; rw [and_not0]
theorem c_X1_hasGoal {w : Wd} {p j q0 : Nat} {P : Pl} {f g : Nat → Int32} {v : Int32} (hP0 : PlaceAt w p P) (hd : p + 10 ≤ j ∨ j + 3 ≤ p) (hO : POK P) (hq : q0 < 4) : K_X1_hasGoal [.ref j, .int (nI q0)] (jt w p j f g v) (RE (bI (hasG P noX (std P noX 0) (nI q0))) (JW w p j)) := by
  refine Con.mk [some (.ref j), some (.int (nI q0))] (by decide) rfl rfl (Nat.le_of_ble_eq_true rfl) (fun X h hR hnm => ?_)
  have hP : ∀ f g v, PlaceAt (jt w p j f g v) p P := fun _ _ _ => jt_P hP0 hd
  refine V.aload0 h 1 dX1_hasGoal_0 rfl (V.iload1 h 2 dX1_hasGoal_1 rfl (V.aload0 h 3 dX1_hasGoal_2 rfl (V.gX1 h 0 6 dX1_hasGoal_3 rfl rfl k126 jto rfl (V.gX2N h 6 9 dX1_hasGoal_6 rfl rfl k44 (hP _ _ _).po rfl (V.aload0 h 10 dX1_hasGoal_9 rfl (V.gX1 h 0 13 dX1_hasGoal_10 rfl rfl k126 jto rfl (V.gX2N h 7 16 dX1_hasGoal_13 rfl rfl k48 (hP _ _ _).po rfl ?_)))))))
  refine V.callVe (As := [.int _, .int _, .int _]) (st := []) h 19 dX1_hasGoal_16 rfl k384 k381 k383 ks30 k3 hd_X1_reaches ⟨(Nat.le_of_ble_eq_true rfl), (Nat.le_of_ble_eq_true rfl)⟩ (Nat.le_of_ble_eq_true rfl) jto rfl rfl ⟨Nat.zero_le _, Nat.zero_le _⟩ (c_X1_reaches hP0 hd hO (sb_op P) (sb_ca P) hq) rfl (fun w16 hw16 => ?_)
  obtain ⟨f1, g1, v1, rfl⟩ := hw16
  refine V.zret h hR (by first | exact bI_z _ | rfl) dX1_hasGoal_19 ?_
  exact ⟨by rw [std_0], f1, g1, v1, rfl⟩
def qPwg (P : Pl) : Int32 := sm (fun k => if (hpj P (nI k) && hasG P noX (std P noX 0) (nI k)) = true then 1 else 0) 4
theorem c_X1_projectsWithGoal {w : Wd} {p j : Nat} {P : Pl} {f g : Nat → Int32} {v : Int32} (hP0 : PlaceAt w p P) (hd : p + 10 ≤ j ∨ j + 3 ≤ p) (hO : POK P) : K_X1_projectsWithGoal [.ref j] (jt w p j f g v) (RE (qPwg P) (JW w p j)) := by
  refine Con.mk [some (.ref j), none, none] (by decide) rfl rfl (Nat.le_of_ble_eq_true rfl) (fun X h hR hnm => ?_)
  have hP : ∀ f g v, PlaceAt (jt w p j f g v) p P := fun _ _ _ => jt_P hP0 hd
  have L : ∀ (d n : Nat) (t : Int32) (f g : Nat → Int32) (v : Int32), n + d = 4 → t = sm (fun k => if (hpj P (nI k) && hasG P noX (std P noX 0) (nI k)) = true then 1 else 0) n → V X 0 0 4 [some (.ref j), some (.int t), some (.int (nI n))] [] (jt w p j f g v) := by
    intro d
    induction d with
    | zero =>
      intro n t f g v hnd ht
      obtain rfl : n = 4 := by omega
      refine V.iload2 h 5 dX1_projectsWithGoal_4 rfl (V.iconst h 6 dX1_projectsWithGoal_5 rfl ic1_4 ?_)
      refine V.icmp_ge h 37 9 dX1_projectsWithGoal_6 rfl rfl (fun _ => ?_) (fun q => absurd (lp_out (n := 4)) q)
      refine V.iload1 h 38 dX1_projectsWithGoal_37 rfl ?_
      refine V.iret h hR dX1_projectsWithGoal_38 ?_
      exact ⟨by rw [ht]; rfl, f, g, v, rfl⟩
    | succ d ih =>
      intro n t f g v hnd ht
      refine V.iload2 h 5 dX1_projectsWithGoal_4 rfl (V.iconst h 6 dX1_projectsWithGoal_5 rfl ic1_4 ?_)
      refine V.icmp_ge h 37 9 dX1_projectsWithGoal_6 rfl rfl (fun q => absurd q (lp_in (n := 4) (by omega))) (fun _ => ?_)
      refine V.aload0 h 10 dX1_projectsWithGoal_9 rfl (V.gX1 h 0 13 dX1_projectsWithGoal_10 rfl rfl k126 jto rfl (V.iload2 h 14 dX1_projectsWithGoal_13 rfl (V.callNf (As := [.int _]) (st := []) h 17 dX1_projectsWithGoal_14 rfl k273 k471 k272 ks8 k2 hd_X2_hasProject ⟨(Nat.le_of_ble_eq_true rfl), (Nat.le_of_ble_eq_true rfl)⟩ (Nat.le_of_ble_eq_true rfl) (hP _ _ _).po rfl rfl ⟨Nat.zero_le _, Nat.zero_le _⟩ (c_X2_hasProject (hP _ _ _)) rfl ?_)))
      refine V.bif_eq h 31 20 dX1_projectsWithGoal_17 rfl rfl (fun c17 => ?_) (fun c17 => ?_)
      · refine V.incN2 h 34 dX1_projectsWithGoal_31 rfl rfl (V.goto h 4 dX1_projectsWithGoal_34 rfl ?_)
        first | exact ih (n + 1) _ _ _ _ (by omega) (by rw [sm_s, c17, if_neg (by decide), Int32.add_zero]; exact ht) | exact ih (n + 1) _ _ _ _ (by omega) (by rw [sm_s, c17, c25, if_neg (by decide), Int32.add_zero]; exact ht) | exact ih (n + 1) _ _ _ _ (by omega) (by rw [sm_s, c17, c25, if_pos (by decide), ht]; rfl)
      · refine V.aload0 h 21 dX1_projectsWithGoal_20 rfl (V.iload2 h 22 dX1_projectsWithGoal_21 rfl (V.callVe (As := [.int _]) (st := []) h 25 dX1_projectsWithGoal_22 rfl k380 k405 k379 ks29 k3 hd_X1_hasGoal ⟨(Nat.le_of_ble_eq_true rfl), (Nat.le_of_ble_eq_true rfl)⟩ (Nat.le_of_ble_eq_true rfl) jto rfl rfl ⟨Nat.zero_le _, Nat.zero_le _⟩ (c_X1_hasGoal hP0 hd hO (by omega)) rfl (fun w22 hw22 => ?_)))
        obtain ⟨f1, g1, v1, rfl⟩ := hw22
        refine V.bif_eq h 31 28 dX1_projectsWithGoal_25 rfl rfl (fun c25 => ?_) (fun c25 => ?_)
        · refine V.incN2 h 34 dX1_projectsWithGoal_31 rfl rfl (V.goto h 4 dX1_projectsWithGoal_34 rfl ?_)
          first | exact ih (n + 1) _ _ _ _ (by omega) (by rw [sm_s, c17, if_neg (by decide), Int32.add_zero]; exact ht) | exact ih (n + 1) _ _ _ _ (by omega) (by rw [sm_s, c17, c25, if_neg (by decide), Int32.add_zero]; exact ht) | exact ih (n + 1) _ _ _ _ (by omega) (by rw [sm_s, c17, c25, if_pos (by decide), ht]; rfl)
        · refine V.iinc1 h 31 dX1_projectsWithGoal_28 rfl rfl rfl (V.incN2 h 34 dX1_projectsWithGoal_31 rfl rfl (V.goto h 4 dX1_projectsWithGoal_34 rfl ?_))
          first | exact ih (n + 1) _ _ _ _ (by omega) (by rw [sm_s, c17, if_neg (by decide), Int32.add_zero]; exact ht) | exact ih (n + 1) _ _ _ _ (by omega) (by rw [sm_s, c17, c25, if_neg (by decide), Int32.add_zero]; exact ht) | exact ih (n + 1) _ _ _ _ (by omega) (by rw [sm_s, c17, c25, if_pos (by decide), ht]; rfl)
  refine V.iconst h 1 dX1_projectsWithGoal_0 rfl ic1_0 (V.istore1 h 2 dX1_projectsWithGoal_1 rfl rfl (V.iconst h 3 dX1_projectsWithGoal_2 rfl ic1_0 (V.istore2 h 4 dX1_projectsWithGoal_3 rfl rfl ?_)))
  exact L 4 0 0 f g v rfl rfl
theorem pw_and0 {S : Int32} {k : Nat} (hk : k < 32) (h : Bt S k = false) : pw (nI k) &&& S = 0 := by
  apply bt_ext; intro i _
  rw [bt_and, bt_pw hk, bt_0]
  by_cases e : i = k
  · rw [e, h, Bool.and_false]
  · rw [decide_eq_false e, Bool.false_and]
theorem pw_and1 {S : Int32} {k : Nat} (hk : k < 32) (h : Bt S k = true) : pw (nI k) &&& S = pw (nI k) := by
  apply bt_ext; intro i _
  rw [bt_and, bt_pw hk]
  by_cases e : i = k
  · rw [e, h, Bool.and_true]
  · rw [decide_eq_false e, Bool.false_and]
theorem pw_ne {k : Nat} (hk : k < 32) : ¬ pw (nI k) = 0 := fun e => by
  have := bt_pw hk k
  rw [e, bt_0, decide_eq_true rfl] at this
  cases this
theorem c_X1_needed {w : Wd} {p j q0 : Nat} {P : Pl} {f g : Nat → Int32} {v : Int32} (hP0 : PlaceAt w p P) (hd : p + 10 ≤ j ∨ j + 3 ≤ p) (hO : POK P) (hq : q0 < 4) : K_X1_needed [.ref j, .int (nI q0)] (jt w p j f g v) (RE (ned P noX (nI q0)) (JW w p j)) := by
  refine Con.mk [some (.ref j), some (.int (nI q0)), none, none, none] (by decide) rfl rfl (Nat.le_of_ble_eq_true rfl) (fun X h hR hnm => ?_)
  have hP : ∀ f g v, PlaceAt (jt w p j f g v) p P := fun _ _ _ => jt_P hP0 hd
  have L : ∀ (d n : Nat) (t : Int32) (u : Option Value) (f g : Nat → Int32) (v : Int32), n + d = 12 → t = mk (fun k => Bt (P 6 0) k && !hasG P noX (std P noX (pw (nI k))) (nI q0)) n → V X 0 0 4 [some (.ref j), some (.int (nI q0)), some (.int t), some (.int (nI n)), u] [] (jt w p j f g v) := by
    intro d
    induction d with
    | zero =>
      intro n t u f g v hnd ht
      obtain rfl : n = 12 := by omega
      refine V.iload3 h 5 dX1_needed_4 rfl (V.bipush h 7 dX1_needed_5 rfl ic2_12 ?_)
      refine V.icmp_ge h 66 10 dX1_needed_7 rfl rfl (fun _ => ?_) (fun q => absurd (lp_out (n := 12)) q)
      refine V.iload2 h 67 dX1_needed_66 rfl ?_
      refine V.iret h hR dX1_needed_67 ?_
      exact ⟨by rw [ht]; rfl, f, g, v, rfl⟩
    | succ d ih =>
      intro n t u f g v hnd ht
      cases hb : Bt (P 6 0) n
      · refine V.iload3 h 5 dX1_needed_4 rfl (V.bipush h 7 dX1_needed_5 rfl ic2_12 ?_)
        refine V.icmp_ge h 66 10 dX1_needed_7 rfl rfl (fun q => absurd q (lp_in (n := 12) (by omega))) (fun _ => ?_)
        refine V.iconst h 11 dX1_needed_10 rfl ic1_1 (V.iload3 h 12 dX1_needed_11 rfl (V.ishl h 13 dX1_needed_12 rfl (V.aload0 h 14 dX1_needed_13 rfl (V.gX1 h 0 17 dX1_needed_14 rfl rfl k126 jto rfl (V.gX2N h 6 20 dX1_needed_17 rfl rfl k44 (hP _ _ _).po rfl (V.iand h 21 dX1_needed_20 rfl ?_))))))
        rw [show (1 : Int32) <<< (nI n &&& 31) &&& P 6 0 = 0 from pw_and0 (by omega) hb]
        refine V.istore4 h 23 dX1_needed_21 rfl rfl (V.iload4 h 25 dX1_needed_23 rfl ?_)
        refine V.if_eq h 60 28 dX1_needed_25 rfl rfl (fun _ => ?_) (fun q => absurd rfl q)
        refine V.incN3 h 63 dX1_needed_60 rfl rfl (V.goto h 4 dX1_needed_63 rfl ?_)
        exact ih (n + 1) _ _ _ _ _ (by omega) (mkf ht (by rw [hb]; rfl))
      · refine V.iload3 h 5 dX1_needed_4 rfl (V.bipush h 7 dX1_needed_5 rfl ic2_12 ?_)
        refine V.icmp_ge h 66 10 dX1_needed_7 rfl rfl (fun q => absurd q (lp_in (n := 12) (by omega))) (fun _ => ?_)
        refine V.iconst h 11 dX1_needed_10 rfl ic1_1 (V.iload3 h 12 dX1_needed_11 rfl (V.ishl h 13 dX1_needed_12 rfl (V.aload0 h 14 dX1_needed_13 rfl (V.gX1 h 0 17 dX1_needed_14 rfl rfl k126 jto rfl (V.gX2N h 6 20 dX1_needed_17 rfl rfl k44 (hP _ _ _).po rfl (V.iand h 21 dX1_needed_20 rfl ?_))))))
        rw [show (1 : Int32) <<< (nI n &&& 31) &&& P 6 0 = pw (nI n) from pw_and1 (by omega) hb]
        refine V.istore4 h 23 dX1_needed_21 rfl rfl (V.iload4 h 25 dX1_needed_23 rfl ?_)
        refine V.if_eq h 60 28 dX1_needed_25 rfl rfl (fun q => absurd q (pw_ne (show n < 32 by omega))) (fun _ => ?_)
        refine V.aload0 h 29 dX1_needed_28 rfl (V.iload1 h 30 dX1_needed_29 rfl (V.aload0 h 31 dX1_needed_30 rfl (V.gX1 h 0 34 dX1_needed_31 rfl rfl k126 jto rfl (V.gX2N h 6 37 dX1_needed_34 rfl rfl k44 (hP _ _ _).po rfl (V.iload4 h 39 dX1_needed_37 rfl (V.iconst h 40 dX1_needed_39 rfl ic1_m1 (V.ixor h 41 dX1_needed_40 rfl ?_)))))))
        refine V.iand h 42 dX1_needed_41 rfl (V.aload0 h 43 dX1_needed_42 rfl (V.gX1 h 0 46 dX1_needed_43 rfl rfl k126 jto rfl (V.gX2N h 7 49 dX1_needed_46 rfl rfl k48 (hP _ _ _).po rfl (V.callVe (As := [.int _, .int _, .int _]) (st := []) h 52 dX1_needed_49 rfl k384 k381 k383 ks30 k3 hd_X1_reaches ⟨(Nat.le_of_ble_eq_true rfl), (Nat.le_of_ble_eq_true rfl)⟩ (Nat.le_of_ble_eq_true rfl) jto rfl rfl ⟨Nat.zero_le _, Nat.zero_le _⟩ (c_X1_reaches hP0 hd hO (sb_and _ (sb_op P)) (sb_ca P) hq) rfl (fun w49 hw49 => ?_)))))
        obtain ⟨f1, g1, v1, rfl⟩ := hw49
        refine V.bif_ne h 60 55 dX1_needed_52 rfl rfl (fun c52 => ?_) (fun c52 => ?_)
        · refine V.incN3 h 63 dX1_needed_60 rfl rfl (V.goto h 4 dX1_needed_63 rfl ?_)
          first | exact ih (n + 1) _ _ _ _ _ (by omega) (mkf ht (by rw [hb, show hasG P noX (std P noX (pw (nI n))) (nI q0) = true from c52]; rfl)) | exact ih (n + 1) _ _ _ _ _ (by omega) (mkt ht (by rw [hb, show hasG P noX (std P noX (pw (nI n))) (nI q0) = false from c52]; rfl))
        · refine V.iload2 h 56 dX1_needed_55 rfl (V.iload4 h 58 dX1_needed_56 rfl (V.ior h 59 dX1_needed_58 rfl (V.istore2 h 60 dX1_needed_59 rfl rfl (V.incN3 h 63 dX1_needed_60 rfl rfl (V.goto h 4 dX1_needed_63 rfl ?_)))))
          first | exact ih (n + 1) _ _ _ _ _ (by omega) (mkf ht (by rw [hb, show hasG P noX (std P noX (pw (nI n))) (nI q0) = true from c52]; rfl)) | exact ih (n + 1) _ _ _ _ _ (by omega) (mkt ht (by rw [hb, show hasG P noX (std P noX (pw (nI n))) (nI q0) = false from c52]; rfl))
  refine V.iconst h 1 dX1_needed_0 rfl ic1_0 (V.istore2 h 2 dX1_needed_1 rfl rfl (V.iconst h 3 dX1_needed_2 rfl ic1_0 (V.istore3 h 4 dX1_needed_3 rfl rfl ?_)))
  exact L 12 0 0 none f g v rfl rfl
