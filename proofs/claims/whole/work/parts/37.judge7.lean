/-! the class: what a project reaches -/
theorem ned_f {P : Pl} {x : Ex} {j : Int32} {n : Nat} {b : Bool} (h1 : Bt (P 6 0) n = true) (h : hasG P x (std P x (pw (nI n))) j = b) : (Bt (P 6 0) n && !hasG P x (std P x (pw (nI n))) j) = !b := by rw [h1, h, Bool.true_and]
theorem std_d {P : Pl} {x : Ex} {G : Int32} : std P x G = grt P x (P 6 0 &&& (G ^^^ (-1))) (P 7 0) ||| P 7 0 := rfl
theorem pw_and0 {S : Int32} {k : Nat} (hk : k < 32) (h : Bt S k = false) : pw (nI k) &&& S = 0 := by
  apply bt_ext; intro i _
  rw [bt_and, bt_pw hk, bt_0]
  by_cases e : i = k
  · rw [e, h, Bool.and_false]
  · rw [decide_eq_false e, Bool.false_and]
theorem pw_and1 {S : Int32} {k : Nat} (hk : k < 32) (h : Bt S k = true) : pw (nI k) &&& S = pw (nI k) := by
  apply bt_ext; intro i _
  rw [bt_and, bt_pw hk]
  by_cases e : i = k
  · rw [e, h, Bool.and_true]
  · rw [decide_eq_false e, Bool.false_and]
theorem pw_ne {k : Nat} (hk : k < 32) : ¬ pw (nI k) = 0 := fun e => by
  have := bt_pw hk k
  rw [e, bt_0, decide_eq_true rfl] at this
  cases this
theorem c_X1_needed {w : Wd} {p j q0 : Nat} {P : Pl} {f g : Nat → Int32} {v : Int32} (hP0 : PlaceAt w p P) (hd : p + 10 ≤ j ∨ j + 3 ≤ p) (hO : POK P) (hq : q0 < 4) : K_X1_needed [.ref j, .int (nI q0)] (jt w p j f g v) (RE (ned P noX (nI q0)) (JW w p j)) := by
  refine Con.mk [some (.ref j), some (.int (nI q0)), none, none, none] (by decide) rfl rfl (Nat.le_of_ble_eq_true rfl) (fun X h hR hnm => ?_)
  have hP : ∀ f g v, PlaceAt (jt w p j f g v) p P := fun _ _ _ => jt_P hP0 hd
  have L : ∀ (d n : Nat) (t : Int32) (u : Option Value) (f g : Nat → Int32) (v : Int32), n + d = 12 → t = mk (fun k => Bt (P 6 0) k && !hasG P noX (std P noX (pw (nI k))) (nI q0)) n → V X 0 0 4 [some (.ref j), some (.int (nI q0)), some (.int t), some (.int (nI n)), u] [] (jt w p j f g v) := by
    intro d
    induction d with
    | zero =>
      intro n t u f g v hnd ht
      obtain rfl : n = 12 := by omega
      refine V.iload3 h 5 dX1_needed_4 rfl (V.bipush h 7 dX1_needed_5 rfl ic2_12 ?_)
      refine V.icmp_ge h 66 10 dX1_needed_7 rfl rfl (fun _ => ?_) (fun q => absurd (lp_out (n := 12)) q)
      refine V.iload2 h 67 dX1_needed_66 rfl ?_
      refine V.iret h hR dX1_needed_67 ?_
      exact ⟨by rw [ht]; rfl, f, g, v, rfl⟩
    | succ d ih =>
      intro n t u f g v hnd ht
      cases hb : Bt (P 6 0) n
      · refine V.iload3 h 5 dX1_needed_4 rfl (V.bipush h 7 dX1_needed_5 rfl ic2_12 ?_)
        refine V.icmp_ge h 66 10 dX1_needed_7 rfl rfl (fun q => absurd q (lp_in (n := 12) (by omega))) (fun _ => ?_)
        refine V.iconst h 11 dX1_needed_10 rfl ic1_1 (V.iload3 h 12 dX1_needed_11 rfl (V.ishl h 13 dX1_needed_12 rfl (V.aload0 h 14 dX1_needed_13 rfl (V.gX1 h 0 17 dX1_needed_14 rfl rfl k126 jto rfl (V.gX2N h 6 20 dX1_needed_17 rfl rfl k44 (hP _ _ _).po rfl (V.iand h 21 dX1_needed_20 rfl ?_))))))
        rw [show (1 : Int32) <<< (nI n &&& 31) &&& P 6 0 = 0 from pw_and0 (by omega) hb]
        refine V.istore4 h 23 dX1_needed_21 rfl rfl (V.iload4 h 25 dX1_needed_23 rfl ?_)
        refine V.if_eq h 60 28 dX1_needed_25 rfl rfl (fun _ => ?_) (fun q => absurd rfl q)
        refine V.incN3 h 63 dX1_needed_60 rfl rfl (V.goto h 4 dX1_needed_63 rfl ?_)
        exact ih (n + 1) _ _ _ _ _ (by omega) (mkf ht (by rw [hb]; rfl))
      · refine V.iload3 h 5 dX1_needed_4 rfl (V.bipush h 7 dX1_needed_5 rfl ic2_12 ?_)
        refine V.icmp_ge h 66 10 dX1_needed_7 rfl rfl (fun q => absurd q (lp_in (n := 12) (by omega))) (fun _ => ?_)
        refine V.iconst h 11 dX1_needed_10 rfl ic1_1 (V.iload3 h 12 dX1_needed_11 rfl (V.ishl h 13 dX1_needed_12 rfl (V.aload0 h 14 dX1_needed_13 rfl (V.gX1 h 0 17 dX1_needed_14 rfl rfl k126 jto rfl (V.gX2N h 6 20 dX1_needed_17 rfl rfl k44 (hP _ _ _).po rfl (V.iand h 21 dX1_needed_20 rfl ?_))))))
        rw [show (1 : Int32) <<< (nI n &&& 31) &&& P 6 0 = pw (nI n) from pw_and1 (by omega) hb]
        refine V.istore4 h 23 dX1_needed_21 rfl rfl (V.iload4 h 25 dX1_needed_23 rfl ?_)
        refine V.if_eq h 60 28 dX1_needed_25 rfl rfl (fun q => absurd q (pw_ne (show n < 32 by omega))) (fun _ => ?_)
        refine V.aload0 h 29 dX1_needed_28 rfl (V.iload1 h 30 dX1_needed_29 rfl (V.aload0 h 31 dX1_needed_30 rfl (V.gX1 h 0 34 dX1_needed_31 rfl rfl k126 jto rfl (V.gX2N h 6 37 dX1_needed_34 rfl rfl k44 (hP _ _ _).po rfl (V.iload4 h 39 dX1_needed_37 rfl (V.iconst h 40 dX1_needed_39 rfl ic1_m1 (V.ixor h 41 dX1_needed_40 rfl ?_)))))))
        refine V.iand h 42 dX1_needed_41 rfl (V.aload0 h 43 dX1_needed_42 rfl (V.gX1 h 0 46 dX1_needed_43 rfl rfl k126 jto rfl (V.gX2N h 7 49 dX1_needed_46 rfl rfl k48 (hP _ _ _).po rfl (V.callVe (As := [.int _, .int _, .int _]) (st := []) h 52 dX1_needed_49 rfl k384 k381 k383 ks30 k3 hd_X1_reaches ⟨(Nat.le_of_ble_eq_true rfl), (Nat.le_of_ble_eq_true rfl)⟩ (Nat.le_of_ble_eq_true rfl) jto rfl rfl ⟨Nat.zero_le _, Nat.zero_le _⟩ (c_X1_reaches hP0 hd hO (sb_and _ (sb_op P)) (sb_ca P) hq) rfl (fun w49 hw49 => ?_)))))
        obtain ⟨f1, g1, v1, rfl⟩ := hw49
        rw [← std_d]
        refine V.bif_ne h 60 55 dX1_needed_52 rfl rfl (fun c52 => ?_) (fun c52 => ?_)
        · refine V.incN3 h 63 dX1_needed_60 rfl rfl (V.goto h 4 dX1_needed_63 rfl ?_)
          first | exact ih (n + 1) _ _ _ _ _ (by omega) (mkf ht (ned_f (b := true) hb c52)) | exact ih (n + 1) _ _ _ _ _ (by omega) (mkt ht (ned_f (b := false) hb c52))
        · refine V.iload2 h 56 dX1_needed_55 rfl (V.iload4 h 58 dX1_needed_56 rfl (V.ior h 59 dX1_needed_58 rfl (V.istore2 h 60 dX1_needed_59 rfl rfl (V.incN3 h 63 dX1_needed_60 rfl rfl (V.goto h 4 dX1_needed_63 rfl ?_)))))
          first | exact ih (n + 1) _ _ _ _ _ (by omega) (mkf ht (ned_f (b := true) hb c52)) | exact ih (n + 1) _ _ _ _ _ (by omega) (mkt ht (ned_f (b := false) hb c52))
  refine V.iconst h 1 dX1_needed_0 rfl ic1_0 (V.istore2 h 2 dX1_needed_1 rfl rfl (V.iconst h 3 dX1_needed_2 rfl ic1_0 (V.istore3 h 4 dX1_needed_3 rfl rfl ?_)))
  exact L 12 0 0 none f g v rfl rfl
