/-! the class: what a project reaches -/
theorem RE_t {b : Bool} {S : Wd → Prop} {u : Wd} (h : b = true) (hs : S u) : RE (bI b) S (some (.int 1)) u := ⟨by rw [h]; rfl, hs⟩
theorem RE_f {b : Bool} {S : Wd → Prop} {u : Wd} (h : b = false) (hs : S u) : RE (bI b) S (some (.int 0)) u := ⟨by rw [h]; rfl, hs⟩
theorem amt_for {P : Pl} {T : Int32} {j : Nat} (hT : sb T (live P)) (hj : j < 2 ^ 31) : amt P (forP P (nI j) &&& T) = mny P noX T (nI j) := by
  unfold amt mny
  rw [show noX.1 = (-1 : Int32) from rfl, if_neg (m1_ne hj), Int32.zero_add]
  refine sm_congr fun k hk => ?_
  unfold forP
  rw [bt_and, bt_mk _ _ _ (by decide), decide_eq_true hk, Bool.true_and]
  cases hb : Bt T k
  · simp
  · rw [hT k hb]; simp
theorem sb_grt {P : Pl} {x : Ex} {S C L : Int32} (h : sb S L) : sb (grt P x S C) L := by
  unfold grt
  exact sb_gs 12 h
theorem c_X1_reaches {w : Wd} {p j q0 : Nat} {P : Pl} {f g : Nat → Int32} {v S C : Int32} (hP0 : PlaceAt w p P) (hd : p + 10 ≤ j ∨ j + 3 ≤ p) (hO : POK P) (hS : sb S (live P)) (hC : sb C (live P)) (hq : q0 < 4) : K_X1_reaches [.ref j, .int (nI q0), .int S, .int C] (jt w p j f g v) (RE (bI (hasG P noX (grt P noX S C ||| C) (nI q0))) (JW w p j)) := by
  refine Con.mk [some (.ref j), some (.int (nI q0)), some (.int S), some (.int C), none] (by decide) rfl rfl (Nat.le_of_ble_eq_true rfl) (fun X h hR hnm => ?_)
  have hP : ∀ f g v, PlaceAt (jt w p j f g v) p P := fun _ _ _ => jt_P hP0 hd
  have e1 : amt P (forP P (nI q0) &&& (grt P noX S C ||| C)) = mny P noX (grt P noX S C ||| C) (nI q0) := amt_for (sb_or (sb_grt hS) hC) (by omega)
  have e2 : hasG P noX (grt P noX S C ||| C) (nI q0) = decide (P 1 q0 ≤ mny P noX (grt P noX S C ||| C) (nI q0)) := by unfold hasG; rw [nI_tn (by omega)]
  refine V.aload0 h 1 dX1_reaches_0 rfl (V.iload2 h 2 dX1_reaches_1 rfl (V.iload3 h 3 dX1_reaches_2 rfl (V.callVe (As := [.int _, .int _]) (st := []) h 6 dX1_reaches_3 rfl k314 k352 k313 ks17 k3 hd_X1_greatest ⟨(Nat.le_of_ble_eq_true rfl), (Nat.le_of_ble_eq_true rfl)⟩ (Nat.le_of_ble_eq_true rfl) jto rfl rfl ⟨Nat.zero_le _, Nat.zero_le _⟩ (c_X1_greatest0 hP0 hd hO hS hC) rfl (fun w3 hw3 => ?_))))
  obtain ⟨f1, g1, v1, rfl⟩ := hw3
  refine V.iload3 h 7 dX1_reaches_6 rfl (V.ior h 8 dX1_reaches_7 rfl (V.istore4 h 10 dX1_reaches_8 rfl rfl (V.aload0 h 11 dX1_reaches_10 rfl (V.gX1 h 0 14 dX1_reaches_11 rfl rfl k126 jto rfl (V.aload0 h 15 dX1_reaches_14 rfl (V.gX1 h 0 18 dX1_reaches_15 rfl rfl k126 jto rfl (V.iload1 h 19 dX1_reaches_18 rfl ?_)))))))
  refine V.callNf (As := [.int _]) (st := [.ref _]) h 22 dX1_reaches_19 rfl k338 k385 k337 ks22 k2 hd_X2_pledgesFor ⟨(Nat.le_of_ble_eq_true rfl), (Nat.le_of_ble_eq_true rfl)⟩ (Nat.le_of_ble_eq_true rfl) (hP _ _ _).po rfl rfl ⟨Nat.zero_le _, Nat.zero_le _⟩ (c_X2_pledgesFor (hP _ _ _)) rfl (V.iload4 h 24 dX1_reaches_22 rfl (V.iand h 25 dX1_reaches_24 rfl (V.callNf (As := [.int _]) (st := []) h 28 dX1_reaches_25 rfl k289 k386 k288 ks12 k2 hd_X2_sum ⟨(Nat.le_of_ble_eq_true rfl), (Nat.le_of_ble_eq_true rfl)⟩ (Nat.le_of_ble_eq_true rfl) (hP _ _ _).po rfl rfl ⟨Nat.zero_le _, Nat.zero_le _⟩ (c_X2_sum (hP _ _ _)) rfl ?_)))
  rw [e1]
  refine V.aload0 h 29 dX1_reaches_28 rfl (V.gX1 h 0 32 dX1_reaches_29 rfl rfl k126 jto rfl (V.gX2N h 1 35 dX1_reaches_32 rfl rfl k28 (hP _ _ _).po rfl (V.iload1 h 36 dX1_reaches_35 rfl (V.ialdN h 37 dX1_reaches_36 rfl (hP _ _ _).pa1 (by omega) (by decide) ?_))))
  refine V.icmp_lt h 44 40 dX1_reaches_37 rfl rfl (fun c37 => ?_) (fun c37 => ?_)
  · refine V.iconst h 45 dX1_reaches_44 rfl ic1_0 ?_
    refine V.zret h hR (by first | exact bI_z _ | rfl) dX1_reaches_45 ?_
    first | exact RE_t (by rw [e2]; exact decide_eq_true (nlt c37)) ⟨f1, g1, v1, rfl⟩ | exact RE_f (by rw [e2]; exact decide_eq_false (lt_n c37)) ⟨f1, g1, v1, rfl⟩
  · refine V.iconst h 41 dX1_reaches_40 rfl ic1_1 (V.goto h 45 dX1_reaches_41 rfl ?_)
    refine V.zret h hR (by first | exact bI_z _ | rfl) dX1_reaches_45 ?_
    first | exact RE_t (by rw [e2]; exact decide_eq_true (nlt c37)) ⟨f1, g1, v1, rfl⟩ | exact RE_f (by rw [e2]; exact decide_eq_false (lt_n c37)) ⟨f1, g1, v1, rfl⟩
