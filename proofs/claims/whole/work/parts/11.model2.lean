/-! the reference: loops over the pledges -/
theorem c_X5_pledges {M : Pl} {b : Nat} {o c : Bool} {w : Wd} : K_X5_pledges [.ref b, .int (bI o), .int (bI c)] (ms w b M) (RI (mk (fun k => sThere (M 0) k && (if sCalled (M 0) k = true then c else o)) 12) (ms w b M)) := by
  refine Con.mk [some (.ref b), some (.int (bI o)), some (.int (bI c)), none, none, none] (by decide) rfl rfl (Nat.le_of_ble_eq_true rfl) (fun X h hR hnm => ?_)
  have L : ∀ (n i : Nat) (s : Int32) (u : Option Value), i + n = 12 → s = mk (fun k => sThere (M 0) k && (if sCalled (M 0) k = true then c else o)) i → V X 0 0 5 [some (.ref b), some (.int (bI o)), some (.int (bI c)), some (.int s), some (.int (nI i)), u] [] (ms w b M) := by
    intro n
    induction n with
    | zero =>
      intro i s u hi hs
      obtain rfl : i = 12 := by omega
      refine V.iload4 h 7 dX5_pledges_5 rfl (V.bipush h 9 dX5_pledges_7 rfl ic2_12 ?_)
      refine V.icmp_ge h 75 12 dX5_pledges_9 rfl rfl (fun _ => ?_) (fun q => absurd (lp_out (n := 12)) q)
      refine V.iload3 h 76 dX5_pledges_75 rfl ?_
      refine V.iret h hR dX5_pledges_76 ?_
      exact RI_r hs
    | succ n ih =>
      intro i s u hi hs
      refine V.iload4 h 7 dX5_pledges_5 rfl (V.bipush h 9 dX5_pledges_7 rfl ic2_12 ?_)
      refine V.icmp_ge h 75 12 dX5_pledges_9 rfl rfl (fun q => absurd q (lp_in (n := 12) (by omega))) (fun _ => ?_)
      refine V.aload0 h 13 dX5_pledges_12 rfl (V.iload4 h 15 dX5_pledges_13 rfl (V.iconst h 16 dX5_pledges_15 rfl ic1_0 (V.callVf (As := [.int _, .int _]) (st := []) h 19 dX5_pledges_16 rfl k648 k645 k647 ks63 k6 hd_X5_of ⟨(Nat.le_of_ble_eq_true rfl), (Nat.le_of_ble_eq_true rfl)⟩ (Nat.le_of_ble_eq_true rfl) mo rfl rfl ⟨Nat.zero_le _, Nat.zero_le _⟩ (c_X5_of 0 rfl (by omega) (by decide)) rfl (V.iconst h 20 dX5_pledges_19 rfl ic1_1 ?_))))
      refine V.icmp_ne h 50 23 dX5_pledges_20 rfl rfl (fun c20 => ?_) (fun c20 => ?_)
      · refine V.iconst h 51 dX5_pledges_50 rfl ic1_0 (V.istore5 h 53 dX5_pledges_51 rfl rfl (V.iload3 h 54 dX5_pledges_53 rfl (V.iload5 h 56 dX5_pledges_54 rfl ?_)))
        refine V.if_eq h 66 59 dX5_pledges_56 rfl rfl (fun c56 => ?_) (fun c56 => ?_)
        · refine V.iconst h 67 dX5_pledges_66 rfl ic1_0 (V.ior h 68 dX5_pledges_67 rfl (V.istore3 h 69 dX5_pledges_68 rfl rfl (V.incN4 h 72 dX5_pledges_69 rfl rfl (V.goto h 5 dX5_pledges_72 rfl ?_))))
          first | exact absurd rfl c56 | exact absurd c56 (by decide) | exact ih (i + 1) _ _ (by omega) (mkt hs (by simp [sThere, sCalled, *]; done)) | exact ih (i + 1) _ _ (by omega) (mkf0 hs (by simp [sThere, sCalled, *]; done))
        · refine V.iconst h 60 dX5_pledges_59 rfl ic1_1 (V.iload4 h 62 dX5_pledges_60 rfl (V.ishl h 63 dX5_pledges_62 rfl (V.goto h 67 dX5_pledges_63 rfl (V.ior h 68 dX5_pledges_67 rfl (V.istore3 h 69 dX5_pledges_68 rfl rfl (V.incN4 h 72 dX5_pledges_69 rfl rfl (V.goto h 5 dX5_pledges_72 rfl ?_)))))))
          first | exact absurd rfl c56 | exact absurd c56 (by decide) | exact ih (i + 1) _ _ (by omega) (mkt hs (by simp [sThere, sCalled, *]; done)) | exact ih (i + 1) _ _ (by omega) (mkf0 hs (by simp [sThere, sCalled, *]; done))
      · refine V.aload0 h 24 dX5_pledges_23 rfl (V.iload4 h 26 dX5_pledges_24 rfl (V.bipush h 28 dX5_pledges_26 rfl ic2_6 (V.callVf (As := [.int _, .int _]) (st := []) h 31 dX5_pledges_28 rfl k648 k645 k647 ks63 k6 hd_X5_of ⟨(Nat.le_of_ble_eq_true rfl), (Nat.le_of_ble_eq_true rfl)⟩ (Nat.le_of_ble_eq_true rfl) mo rfl rfl ⟨Nat.zero_le _, Nat.zero_le _⟩ (c_X5_of 6 rfl (by omega) (by decide)) rfl (V.iconst h 32 dX5_pledges_31 rfl ic1_1 ?_))))
        refine V.icmp_ne h 42 35 dX5_pledges_32 rfl rfl (fun c32 => ?_) (fun c32 => ?_)
        · refine V.iload1 h 43 dX5_pledges_42 rfl ?_
          refine V.bif_eq h 50 46 dX5_pledges_43 rfl rfl (fun c43 => ?_) (fun c43 => ?_)
          · refine V.iconst h 51 dX5_pledges_50 rfl ic1_0 (V.istore5 h 53 dX5_pledges_51 rfl rfl (V.iload3 h 54 dX5_pledges_53 rfl (V.iload5 h 56 dX5_pledges_54 rfl ?_)))
            refine V.if_eq h 66 59 dX5_pledges_56 rfl rfl (fun c56 => ?_) (fun c56 => ?_)
            · refine V.iconst h 67 dX5_pledges_66 rfl ic1_0 (V.ior h 68 dX5_pledges_67 rfl (V.istore3 h 69 dX5_pledges_68 rfl rfl (V.incN4 h 72 dX5_pledges_69 rfl rfl (V.goto h 5 dX5_pledges_72 rfl ?_))))
              first | exact absurd rfl c56 | exact absurd c56 (by decide) | exact ih (i + 1) _ _ (by omega) (mkt hs (by simp [sThere, sCalled, *]; done)) | exact ih (i + 1) _ _ (by omega) (mkf0 hs (by simp [sThere, sCalled, *]; done))
            · refine V.iconst h 60 dX5_pledges_59 rfl ic1_1 (V.iload4 h 62 dX5_pledges_60 rfl (V.ishl h 63 dX5_pledges_62 rfl (V.goto h 67 dX5_pledges_63 rfl (V.ior h 68 dX5_pledges_67 rfl (V.istore3 h 69 dX5_pledges_68 rfl rfl (V.incN4 h 72 dX5_pledges_69 rfl rfl (V.goto h 5 dX5_pledges_72 rfl ?_)))))))
              first | exact absurd rfl c56 | exact absurd c56 (by decide) | exact ih (i + 1) _ _ (by omega) (mkt hs (by simp [sThere, sCalled, *]; done)) | exact ih (i + 1) _ _ (by omega) (mkf0 hs (by simp [sThere, sCalled, *]; done))
          · refine V.iconst h 47 dX5_pledges_46 rfl ic1_1 (V.goto h 51 dX5_pledges_47 rfl (V.istore5 h 53 dX5_pledges_51 rfl rfl (V.iload3 h 54 dX5_pledges_53 rfl (V.iload5 h 56 dX5_pledges_54 rfl ?_))))
            refine V.if_eq h 66 59 dX5_pledges_56 rfl rfl (fun c56 => ?_) (fun c56 => ?_)
            · refine V.iconst h 67 dX5_pledges_66 rfl ic1_0 (V.ior h 68 dX5_pledges_67 rfl (V.istore3 h 69 dX5_pledges_68 rfl rfl (V.incN4 h 72 dX5_pledges_69 rfl rfl (V.goto h 5 dX5_pledges_72 rfl ?_))))
              first | exact absurd rfl c56 | exact absurd c56 (by decide) | exact ih (i + 1) _ _ (by omega) (mkt hs (by simp [sThere, sCalled, *]; done)) | exact ih (i + 1) _ _ (by omega) (mkf0 hs (by simp [sThere, sCalled, *]; done))
            · refine V.iconst h 60 dX5_pledges_59 rfl ic1_1 (V.iload4 h 62 dX5_pledges_60 rfl (V.ishl h 63 dX5_pledges_62 rfl (V.goto h 67 dX5_pledges_63 rfl (V.ior h 68 dX5_pledges_67 rfl (V.istore3 h 69 dX5_pledges_68 rfl rfl (V.incN4 h 72 dX5_pledges_69 rfl rfl (V.goto h 5 dX5_pledges_72 rfl ?_)))))))
              first | exact absurd rfl c56 | exact absurd c56 (by decide) | exact ih (i + 1) _ _ (by omega) (mkt hs (by simp [sThere, sCalled, *]; done)) | exact ih (i + 1) _ _ (by omega) (mkf0 hs (by simp [sThere, sCalled, *]; done))
        · refine V.iload2 h 36 dX5_pledges_35 rfl ?_
          refine V.bif_eq h 50 39 dX5_pledges_36 rfl rfl (fun c36 => ?_) (fun c36 => ?_)
          · refine V.iconst h 51 dX5_pledges_50 rfl ic1_0 (V.istore5 h 53 dX5_pledges_51 rfl rfl (V.iload3 h 54 dX5_pledges_53 rfl (V.iload5 h 56 dX5_pledges_54 rfl ?_)))
            refine V.if_eq h 66 59 dX5_pledges_56 rfl rfl (fun c56 => ?_) (fun c56 => ?_)
            · refine V.iconst h 67 dX5_pledges_66 rfl ic1_0 (V.ior h 68 dX5_pledges_67 rfl (V.istore3 h 69 dX5_pledges_68 rfl rfl (V.incN4 h 72 dX5_pledges_69 rfl rfl (V.goto h 5 dX5_pledges_72 rfl ?_))))
              first | exact absurd rfl c56 | exact absurd c56 (by decide) | exact ih (i + 1) _ _ (by omega) (mkt hs (by simp [sThere, sCalled, *]; done)) | exact ih (i + 1) _ _ (by omega) (mkf0 hs (by simp [sThere, sCalled, *]; done))
            · refine V.iconst h 60 dX5_pledges_59 rfl ic1_1 (V.iload4 h 62 dX5_pledges_60 rfl (V.ishl h 63 dX5_pledges_62 rfl (V.goto h 67 dX5_pledges_63 rfl (V.ior h 68 dX5_pledges_67 rfl (V.istore3 h 69 dX5_pledges_68 rfl rfl (V.incN4 h 72 dX5_pledges_69 rfl rfl (V.goto h 5 dX5_pledges_72 rfl ?_)))))))
              first | exact absurd rfl c56 | exact absurd c56 (by decide) | exact ih (i + 1) _ _ (by omega) (mkt hs (by simp [sThere, sCalled, *]; done)) | exact ih (i + 1) _ _ (by omega) (mkf0 hs (by simp [sThere, sCalled, *]; done))
          · refine V.goto h 46 dX5_pledges_39 rfl (V.iconst h 47 dX5_pledges_46 rfl ic1_1 (V.goto h 51 dX5_pledges_47 rfl (V.istore5 h 53 dX5_pledges_51 rfl rfl (V.iload3 h 54 dX5_pledges_53 rfl (V.iload5 h 56 dX5_pledges_54 rfl ?_)))))
            refine V.if_eq h 66 59 dX5_pledges_56 rfl rfl (fun c56 => ?_) (fun c56 => ?_)
            · refine V.iconst h 67 dX5_pledges_66 rfl ic1_0 (V.ior h 68 dX5_pledges_67 rfl (V.istore3 h 69 dX5_pledges_68 rfl rfl (V.incN4 h 72 dX5_pledges_69 rfl rfl (V.goto h 5 dX5_pledges_72 rfl ?_))))
              first | exact absurd rfl c56 | exact absurd c56 (by decide) | exact ih (i + 1) _ _ (by omega) (mkt hs (by simp [sThere, sCalled, *]; done)) | exact ih (i + 1) _ _ (by omega) (mkf0 hs (by simp [sThere, sCalled, *]; done))
            · refine V.iconst h 60 dX5_pledges_59 rfl ic1_1 (V.iload4 h 62 dX5_pledges_60 rfl (V.ishl h 63 dX5_pledges_62 rfl (V.goto h 67 dX5_pledges_63 rfl (V.ior h 68 dX5_pledges_67 rfl (V.istore3 h 69 dX5_pledges_68 rfl rfl (V.incN4 h 72 dX5_pledges_69 rfl rfl (V.goto h 5 dX5_pledges_72 rfl ?_)))))))
              first | exact absurd rfl c56 | exact absurd c56 (by decide) | exact ih (i + 1) _ _ (by omega) (mkt hs (by simp [sThere, sCalled, *]; done)) | exact ih (i + 1) _ _ (by omega) (mkf0 hs (by simp [sThere, sCalled, *]; done))
  refine V.iconst h 1 dX5_pledges_0 rfl ic1_0 (V.istore3 h 2 dX5_pledges_1 rfl rfl (V.iconst h 3 dX5_pledges_2 rfl ic1_0 (V.istore4 h 5 dX5_pledges_3 rfl rfl ?_)))
  exact L 12 0 0 _ rfl rfl
theorem c_X5_moneyFor {M : Pl} {b : Nat} {S j : Int32} {w : Wd} : K_X5_moneyFor [.ref b, .int S, .int j] (ms w b M) (RI (mny (vP (M 0)) (M 6 0, M 7 0) S j) (ms w b M)) := by
  refine Con.mk [some (.ref b), some (.int S), some (.int j), none, none] (by decide) rfl rfl (Nat.le_of_ble_eq_true rfl) (fun X h hR hnm => ?_)
  have L : ∀ (n i : Nat) (s : Int32), i + n = 12 → s = (if M 6 0 = j then M 7 0 else 0) + sm (fun k => if (Bt S k && decide (vP (M 0) 9 k = j)) = true then vP (M 0) 10 k else 0) i → V X 0 0 20 [some (.ref b), some (.int S), some (.int j), some (.int s), some (.int (nI i))] [] (ms w b M) := by
    intro n
    induction n with
    | zero =>
      intro i s hi hs
      obtain rfl : i = 12 := by omega
      refine V.iload4 h 22 dX5_moneyFor_20 rfl (V.bipush h 24 dX5_moneyFor_22 rfl ic2_12 ?_)
      refine V.icmp_ge h 67 27 dX5_moneyFor_24 rfl rfl (fun _ => ?_) (fun q => absurd (lp_out (n := 12)) q)
      refine V.iload3 h 68 dX5_moneyFor_67 rfl ?_
      refine V.iret h hR dX5_moneyFor_68 ?_
      exact RI_r hs
    | succ n ih =>
      intro i s hi hs
      refine V.iload4 h 22 dX5_moneyFor_20 rfl (V.bipush h 24 dX5_moneyFor_22 rfl ic2_12 ?_)
      refine V.icmp_ge h 67 27 dX5_moneyFor_24 rfl rfl (fun q => absurd q (lp_in (n := 12) (by omega))) (fun _ => ?_)
      refine V.iload3 h 28 dX5_moneyFor_27 rfl (V.iload1 h 29 dX5_moneyFor_28 rfl (V.iload4 h 31 dX5_moneyFor_29 rfl (V.callSf (As := [.int _, .int _]) (st := [.int _]) h 34 dX5_moneyFor_31 rfl k663 k661 k662 k6 hd_X5_has ⟨(Nat.le_of_ble_eq_true rfl), (Nat.le_of_ble_eq_true rfl)⟩ (Nat.le_of_ble_eq_true rfl) ⟨Nat.zero_le _, Nat.zero_le _⟩ (c_X5_has (by omega)) rfl ?_)))
      refine V.bif_eq h 58 37 dX5_moneyFor_34 rfl rfl (fun c34 => ?_) (fun c34 => ?_)
      · refine V.iconst h 59 dX5_moneyFor_58 rfl ic1_0 (V.iadd h 60 dX5_moneyFor_59 rfl (V.istore3 h 61 dX5_moneyFor_60 rfl rfl (V.incN4 h 64 dX5_moneyFor_61 rfl rfl (V.goto h 20 dX5_moneyFor_64 rfl ?_))))
        exact ih (i + 1) _ (by omega) (stp hs (by simp [vP, *]; done))
      · refine V.aload0 h 38 dX5_moneyFor_37 rfl (V.iload4 h 40 dX5_moneyFor_38 rfl (V.iconst h 41 dX5_moneyFor_40 rfl ic1_2 (V.callVf (As := [.int _, .int _]) (st := [.int _]) h 44 dX5_moneyFor_41 rfl k648 k645 k647 ks63 k6 hd_X5_of ⟨(Nat.le_of_ble_eq_true rfl), (Nat.le_of_ble_eq_true rfl)⟩ (Nat.le_of_ble_eq_true rfl) mo rfl rfl ⟨Nat.zero_le _, Nat.zero_le _⟩ (c_X5_of 2 rfl (by omega) (by decide)) rfl (V.iload2 h 45 dX5_moneyFor_44 rfl ?_))))
        refine V.icmp_ne h 58 48 dX5_moneyFor_45 rfl rfl (fun c45 => ?_) (fun c45 => ?_)
        · refine V.iconst h 59 dX5_moneyFor_58 rfl ic1_0 (V.iadd h 60 dX5_moneyFor_59 rfl (V.istore3 h 61 dX5_moneyFor_60 rfl rfl (V.incN4 h 64 dX5_moneyFor_61 rfl rfl (V.goto h 20 dX5_moneyFor_64 rfl ?_))))
          exact ih (i + 1) _ (by omega) (stp hs (by simp [vP, *]; done))
        · refine V.aload0 h 49 dX5_moneyFor_48 rfl (V.iload4 h 51 dX5_moneyFor_49 rfl (V.iconst h 52 dX5_moneyFor_51 rfl ic1_3 (V.callVf (As := [.int _, .int _]) (st := [.int _]) h 55 dX5_moneyFor_52 rfl k648 k645 k647 ks63 k6 hd_X5_of ⟨(Nat.le_of_ble_eq_true rfl), (Nat.le_of_ble_eq_true rfl)⟩ (Nat.le_of_ble_eq_true rfl) mo rfl rfl ⟨Nat.zero_le _, Nat.zero_le _⟩ (c_X5_of 3 rfl (by omega) (by decide)) rfl (V.goto h 59 dX5_moneyFor_55 rfl (V.iadd h 60 dX5_moneyFor_59 rfl (V.istore3 h 61 dX5_moneyFor_60 rfl rfl (V.incN4 h 64 dX5_moneyFor_61 rfl rfl ?_)))))))
          refine V.goto h 20 dX5_moneyFor_64 rfl ?_
          exact ih (i + 1) _ (by omega) (stp hs (by simp [vP, *]; done))
  refine V.aload0 h 1 dX5_moneyFor_0 rfl (V.gX5 h 6 4 dX5_moneyFor_1 rfl rfl k550 mo rfl (V.iload2 h 5 dX5_moneyFor_4 rfl ?_))
  refine V.icmp_ne h 15 8 dX5_moneyFor_5 rfl rfl (fun c5 => ?_) (fun c5 => ?_)
  · refine V.iconst h 16 dX5_moneyFor_15 rfl ic1_0 (V.istore3 h 17 dX5_moneyFor_16 rfl rfl (V.iconst h 18 dX5_moneyFor_17 rfl ic1_0 (V.istore4 h 20 dX5_moneyFor_18 rfl rfl ?_)))
    exact L 12 0 _ rfl (by simp [sm_0, c5])
  · refine V.aload0 h 9 dX5_moneyFor_8 rfl (V.gX5 h 7 12 dX5_moneyFor_9 rfl rfl k551 mo rfl (V.goto h 16 dX5_moneyFor_12 rfl (V.istore3 h 17 dX5_moneyFor_16 rfl rfl (V.iconst h 18 dX5_moneyFor_17 rfl ic1_0 (V.istore4 h 20 dX5_moneyFor_18 rfl rfl ?_)))))
    exact L 12 0 _ rfl (by simp [sm_0, c5])
theorem c_X5_manyFor {M : Pl} {b : Nat} {S j : Int32} {w : Wd} : K_X5_manyFor [.ref b, .int S, .int j] (ms w b M) (RI (mnn (vP (M 0)) (M 6 0, M 7 0) S j) (ms w b M)) := by
  refine Con.mk [some (.ref b), some (.int S), some (.int j), none, none] (by decide) rfl rfl (Nat.le_of_ble_eq_true rfl) (fun X h hR hnm => ?_)
  have L : ∀ (n i : Nat) (s : Int32), i + n = 12 → s = (if M 6 0 = j then 1 else 0) + sm (fun k => if (Bt S k && decide (vP (M 0) 9 k = j)) = true then 1 else 0) i → V X 0 0 17 [some (.ref b), some (.int S), some (.int j), some (.int s), some (.int (nI i))] [] (ms w b M) := by
    intro n
    induction n with
    | zero =>
      intro i s hi hs
      obtain rfl : i = 12 := by omega
      refine V.iload4 h 19 dX5_manyFor_17 rfl (V.bipush h 21 dX5_manyFor_19 rfl ic2_12 ?_)
      refine V.icmp_ge h 58 24 dX5_manyFor_21 rfl rfl (fun _ => ?_) (fun q => absurd (lp_out (n := 12)) q)
      refine V.iload3 h 59 dX5_manyFor_58 rfl ?_
      refine V.iret h hR dX5_manyFor_59 ?_
      exact RI_r hs
    | succ n ih =>
      intro i s hi hs
      refine V.iload4 h 19 dX5_manyFor_17 rfl (V.bipush h 21 dX5_manyFor_19 rfl ic2_12 ?_)
      refine V.icmp_ge h 58 24 dX5_manyFor_21 rfl rfl (fun q => absurd q (lp_in (n := 12) (by omega))) (fun _ => ?_)
      refine V.iload3 h 25 dX5_manyFor_24 rfl (V.iload1 h 26 dX5_manyFor_25 rfl (V.iload4 h 28 dX5_manyFor_26 rfl (V.callSf (As := [.int _, .int _]) (st := [.int _]) h 31 dX5_manyFor_28 rfl k663 k661 k662 k6 hd_X5_has ⟨(Nat.le_of_ble_eq_true rfl), (Nat.le_of_ble_eq_true rfl)⟩ (Nat.le_of_ble_eq_true rfl) ⟨Nat.zero_le _, Nat.zero_le _⟩ (c_X5_has (by omega)) rfl ?_)))
      refine V.bif_eq h 49 34 dX5_manyFor_31 rfl rfl (fun c31 => ?_) (fun c31 => ?_)
      · refine V.iconst h 50 dX5_manyFor_49 rfl ic1_0 (V.iadd h 51 dX5_manyFor_50 rfl (V.istore3 h 52 dX5_manyFor_51 rfl rfl (V.incN4 h 55 dX5_manyFor_52 rfl rfl (V.goto h 17 dX5_manyFor_55 rfl ?_))))
        exact ih (i + 1) _ (by omega) (stp hs (by simp [vP, *]; done))
      · refine V.aload0 h 35 dX5_manyFor_34 rfl (V.iload4 h 37 dX5_manyFor_35 rfl (V.iconst h 38 dX5_manyFor_37 rfl ic1_2 (V.callVf (As := [.int _, .int _]) (st := [.int _]) h 41 dX5_manyFor_38 rfl k648 k645 k647 ks63 k6 hd_X5_of ⟨(Nat.le_of_ble_eq_true rfl), (Nat.le_of_ble_eq_true rfl)⟩ (Nat.le_of_ble_eq_true rfl) mo rfl rfl ⟨Nat.zero_le _, Nat.zero_le _⟩ (c_X5_of 2 rfl (by omega) (by decide)) rfl (V.iload2 h 42 dX5_manyFor_41 rfl ?_))))
        refine V.icmp_ne h 49 45 dX5_manyFor_42 rfl rfl (fun c42 => ?_) (fun c42 => ?_)
        · refine V.iconst h 50 dX5_manyFor_49 rfl ic1_0 (V.iadd h 51 dX5_manyFor_50 rfl (V.istore3 h 52 dX5_manyFor_51 rfl rfl (V.incN4 h 55 dX5_manyFor_52 rfl rfl (V.goto h 17 dX5_manyFor_55 rfl ?_))))
          exact ih (i + 1) _ (by omega) (stp hs (by simp [vP, *]; done))
        · refine V.iconst h 46 dX5_manyFor_45 rfl ic1_1 (V.goto h 50 dX5_manyFor_46 rfl (V.iadd h 51 dX5_manyFor_50 rfl (V.istore3 h 52 dX5_manyFor_51 rfl rfl (V.incN4 h 55 dX5_manyFor_52 rfl rfl (V.goto h 17 dX5_manyFor_55 rfl ?_)))))
          exact ih (i + 1) _ (by omega) (stp hs (by simp [vP, *]; done))
  refine V.aload0 h 1 dX5_manyFor_0 rfl (V.gX5 h 6 4 dX5_manyFor_1 rfl rfl k550 mo rfl (V.iload2 h 5 dX5_manyFor_4 rfl ?_))
  refine V.icmp_ne h 12 8 dX5_manyFor_5 rfl rfl (fun c5 => ?_) (fun c5 => ?_)
  · refine V.iconst h 13 dX5_manyFor_12 rfl ic1_0 (V.istore3 h 14 dX5_manyFor_13 rfl rfl (V.iconst h 15 dX5_manyFor_14 rfl ic1_0 (V.istore4 h 17 dX5_manyFor_15 rfl rfl ?_)))
    exact L 12 0 _ rfl (by simp [sm_0, c5])
  · refine V.iconst h 9 dX5_manyFor_8 rfl ic1_1 (V.goto h 13 dX5_manyFor_9 rfl (V.istore3 h 14 dX5_manyFor_13 rfl rfl (V.iconst h 15 dX5_manyFor_14 rfl ic1_0 (V.istore4 h 17 dX5_manyFor_15 rfl rfl ?_))))
    exact L 12 0 _ rfl (by simp [sm_0, c5])
theorem c_X5_isOf {M : Pl} {b : Nat} {S j : Int32} {w : Wd} : K_X5_isOf [.ref b, .int S, .int j] (ms w b M) (RI (bI (isO (vP (M 0)) S j)) (ms w b M)) := by
  refine Con.mk [some (.ref b), some (.int S), some (.int j), none, none] (by decide) rfl rfl (Nat.le_of_ble_eq_true rfl) (fun X h hR hnm => ?_)
  have L : ∀ (n i : Nat) (s : Bool) (z : Int32), i + n = 12 → z = bI s → s = anyb (fun k => Bt S k && decide (vP (M 0) 8 k = j)) i → V X 0 0 5 [some (.ref b), some (.int S), some (.int j), some (.int z), some (.int (nI i))] [] (ms w b M) := by
    intro n
    induction n with
    | zero =>
      intro i s z hi hz hs
      subst hz
      obtain rfl : i = 12 := by omega
      refine V.iload4 h 7 dX5_isOf_5 rfl (V.bipush h 9 dX5_isOf_7 rfl ic2_12 ?_)
      refine V.icmp_ge h 48 12 dX5_isOf_9 rfl rfl (fun _ => ?_) (fun q => absurd (lp_out (n := 12)) q)
      refine V.iload3 h 49 dX5_isOf_48 rfl ?_
      refine V.zret h hR (by first | exact bI_z _ | rfl) dX5_isOf_49 ?_
      exact RI_r (by rw [hs]; rfl)
    | succ n ih =>
      intro i s z hi hz hs
      subst hz
      refine V.iload4 h 7 dX5_isOf_5 rfl (V.bipush h 9 dX5_isOf_7 rfl ic2_12 ?_)
      refine V.icmp_ge h 48 12 dX5_isOf_9 rfl rfl (fun q => absurd q (lp_in (n := 12) (by omega))) (fun _ => ?_)
      refine V.iload3 h 13 dX5_isOf_12 rfl ?_
      refine V.bif_ne h 36 16 dX5_isOf_13 rfl rfl (fun c13 => ?_) (fun c13 => ?_)
      · refine V.iconst h 37 dX5_isOf_36 rfl ic1_1 (V.goto h 41 dX5_isOf_37 rfl (V.istore3 h 42 dX5_isOf_41 rfl rfl (V.incN4 h 45 dX5_isOf_42 rfl rfl (V.goto h 5 dX5_isOf_45 rfl ?_))))
        first | exact ih (i + 1) true _ (by omega) rfl (by rw [anyb, ← hs]; clear hs ih; simp [vP, *]; done) | exact ih (i + 1) false _ (by omega) rfl (by rw [anyb, ← hs]; clear hs ih; simp [vP, *]; done)
      · refine V.iload1 h 17 dX5_isOf_16 rfl (V.iload4 h 19 dX5_isOf_17 rfl (V.callSf (As := [.int _, .int _]) (st := []) h 22 dX5_isOf_19 rfl k663 k661 k662 k6 hd_X5_has ⟨(Nat.le_of_ble_eq_true rfl), (Nat.le_of_ble_eq_true rfl)⟩ (Nat.le_of_ble_eq_true rfl) ⟨Nat.zero_le _, Nat.zero_le _⟩ (c_X5_has (by omega)) rfl ?_))
        refine V.bif_eq h 40 25 dX5_isOf_22 rfl rfl (fun c22 => ?_) (fun c22 => ?_)
        · refine V.iconst h 41 dX5_isOf_40 rfl ic1_0 (V.istore3 h 42 dX5_isOf_41 rfl rfl (V.incN4 h 45 dX5_isOf_42 rfl rfl (V.goto h 5 dX5_isOf_45 rfl ?_)))
          first | exact ih (i + 1) true _ (by omega) rfl (by rw [anyb, ← hs]; clear hs ih; simp [vP, *]; done) | exact ih (i + 1) false _ (by omega) rfl (by rw [anyb, ← hs]; clear hs ih; simp [vP, *]; done)
        · refine V.aload0 h 26 dX5_isOf_25 rfl (V.iload4 h 28 dX5_isOf_26 rfl (V.iconst h 29 dX5_isOf_28 rfl ic1_1 (V.callVf (As := [.int _, .int _]) (st := []) h 32 dX5_isOf_29 rfl k648 k645 k647 ks63 k6 hd_X5_of ⟨(Nat.le_of_ble_eq_true rfl), (Nat.le_of_ble_eq_true rfl)⟩ (Nat.le_of_ble_eq_true rfl) mo rfl rfl ⟨Nat.zero_le _, Nat.zero_le _⟩ (c_X5_of 1 rfl (by omega) (by decide)) rfl (V.iload2 h 33 dX5_isOf_32 rfl ?_))))
          refine V.icmp_ne h 40 36 dX5_isOf_33 rfl rfl (fun c33 => ?_) (fun c33 => ?_)
          · refine V.iconst h 41 dX5_isOf_40 rfl ic1_0 (V.istore3 h 42 dX5_isOf_41 rfl rfl (V.incN4 h 45 dX5_isOf_42 rfl rfl (V.goto h 5 dX5_isOf_45 rfl ?_)))
            first | exact ih (i + 1) true _ (by omega) rfl (by rw [anyb, ← hs]; clear hs ih; simp [vP, *]; done) | exact ih (i + 1) false _ (by omega) rfl (by rw [anyb, ← hs]; clear hs ih; simp [vP, *]; done)
          · refine V.iconst h 37 dX5_isOf_36 rfl ic1_1 (V.goto h 41 dX5_isOf_37 rfl (V.istore3 h 42 dX5_isOf_41 rfl rfl (V.incN4 h 45 dX5_isOf_42 rfl rfl (V.goto h 5 dX5_isOf_45 rfl ?_))))
            first | exact ih (i + 1) true _ (by omega) rfl (by rw [anyb, ← hs]; clear hs ih; simp [vP, *]; done) | exact ih (i + 1) false _ (by omega) rfl (by rw [anyb, ← hs]; clear hs ih; simp [vP, *]; done)
  refine V.iconst h 1 dX5_isOf_0 rfl ic1_0 (V.istore3 h 2 dX5_isOf_1 rfl rfl (V.iconst h 3 dX5_isOf_2 rfl ic1_0 (V.istore4 h 5 dX5_isOf_3 rfl rfl ?_)))
  exact L 12 0 false _ rfl rfl rfl
/-- a condition that can be looked at -/
def kOK (P : Pl) (k : Nat) : Prop := P 11 k = 0 ∨ P 11 k = 1 ∨ P 11 k = 2 ∨ P 11 k = 3 ∨ ∃ j, j < 4 ∧ P 12 k = nI j
theorem c_X5_holds {M : Pl} {b k : Nat} {S : Int32} {w : Wd} (hk : k < 12) (hok : kOK (vP (M 0)) k) : K_X5_holds [.ref b, .int (nI k), .int S] (ms w b M) (RI (bI (hld (vP (M 0)) (M 6 0, M 7 0) k S)) (ms w b M)) := by
  refine Con.mk [some (.ref b), some (.int (nI k)), some (.int S), none, none] (by decide) rfl rfl (Nat.le_of_ble_eq_true rfl) (fun X h hR hnm => ?_)
  have e0 : (S &&& ((1 : Int32) <<< (nI k &&& 31) ^^^ -1)) = wo S k := rfl
  have hv : ∀ q, hld (vP (M 0)) (M 6 0, M 7 0) k S = q ↔ (if sF (M 0) k 4 = 0 then true else if sF (M 0) k 4 = 1 then decide (sF (M 0) k 5 ≤ mny (vP (M 0)) (M 6 0, M 7 0) (wo S k) (sF (M 0) k 2)) else if sF (M 0) k 4 = 2 then decide (sF (M 0) k 5 ≤ mnn (vP (M 0)) (M 6 0, M 7 0) (wo S k) (sF (M 0) k 2)) else if sF (M 0) k 4 = 3 then isO (vP (M 0)) S (sF (M 0) k 5) else decide (vP (M 0) 1 (sF (M 0) k 5).toNatClampNeg ≤ mny (vP (M 0)) (M 6 0, M 7 0) S (sF (M 0) k 5))) = q := fun q => Iff.rfl
  refine V.iload2 h 1 dX5_holds_0 rfl (V.iconst h 2 dX5_holds_1 rfl ic1_1 (V.iload1 h 3 dX5_holds_2 rfl (V.ishl h 4 dX5_holds_3 rfl (V.iconst h 5 dX5_holds_4 rfl ic1_m1 (V.ixor h 6 dX5_holds_5 rfl (V.iand h 7 dX5_holds_6 rfl ?_))))))
  rw [e0]
  refine V.istore3 h 8 dX5_holds_7 rfl rfl (V.aload0 h 9 dX5_holds_8 rfl (V.iload1 h 10 dX5_holds_9 rfl (V.iconst h 11 dX5_holds_10 rfl ic1_5 (V.callVf (As := [.int _, .int _]) (st := []) h 14 dX5_holds_11 rfl k648 k645 k647 ks63 k6 hd_X5_of ⟨(Nat.le_of_ble_eq_true rfl), (Nat.le_of_ble_eq_true rfl)⟩ (Nat.le_of_ble_eq_true rfl) mo rfl rfl ⟨Nat.zero_le _, Nat.zero_le _⟩ (c_X5_of 5 rfl (by omega) (by decide)) rfl (V.istore4 h 16 dX5_holds_14 rfl rfl (V.aload0 h 17 dX5_holds_16 rfl (V.iload1 h 18 dX5_holds_17 rfl ?_)))))))
  refine V.iconst h 19 dX5_holds_18 rfl ic1_4 (V.callVf (As := [.int _, .int _]) (st := []) h 22 dX5_holds_19 rfl k648 k645 k647 ks63 k6 hd_X5_of ⟨(Nat.le_of_ble_eq_true rfl), (Nat.le_of_ble_eq_true rfl)⟩ (Nat.le_of_ble_eq_true rfl) mo rfl rfl ⟨Nat.zero_le _, Nat.zero_le _⟩ (c_X5_of 4 rfl (by omega) (by decide)) rfl ?_)
  refine V.tcase (off := 30) h (0 : Int32) 52 dX5_holds_22 (by decide) (by decide +kernel) rfl (fun c22_0 => ?_) (fun c22_0 => ?_)
  · refine V.iconst h 53 dX5_holds_52 rfl ic1_1 ?_
    refine V.zret h hR (by first | exact bI_z _ | rfl) dX5_holds_53 ?_
    exact RI_t ((hv _).mpr (by simp [c22_0]))
  refine V.tcase (off := 32) h (1 : Int32) 54 dX5_holds_22 (by decide) (by decide +kernel) rfl (fun c22_1 => ?_) (fun c22_1 => ?_)
  · refine V.aload0 h 55 dX5_holds_54 rfl (V.iload3 h 56 dX5_holds_55 rfl (V.aload0 h 57 dX5_holds_56 rfl (V.iload1 h 58 dX5_holds_57 rfl (V.iconst h 59 dX5_holds_58 rfl ic1_2 (V.callVf (As := [.int _, .int _]) (st := [.int _, .ref _]) h 62 dX5_holds_59 rfl k648 k645 k647 ks63 k6 hd_X5_of ⟨(Nat.le_of_ble_eq_true rfl), (Nat.le_of_ble_eq_true rfl)⟩ (Nat.le_of_ble_eq_true rfl) mo rfl rfl ⟨Nat.zero_le _, Nat.zero_le _⟩ (c_X5_of 2 rfl (by omega) (by decide)) rfl (V.callVf (As := [.int _, .int _]) (st := []) h 65 dX5_holds_62 rfl k703 k700 k702 ks75 k6 hd_X5_moneyFor ⟨(Nat.le_of_ble_eq_true rfl), (Nat.le_of_ble_eq_true rfl)⟩ (Nat.le_of_ble_eq_true rfl) mo rfl rfl ⟨Nat.zero_le _, Nat.zero_le _⟩ c_X5_moneyFor rfl (V.iload4 h 67 dX5_holds_65 rfl ?_)))))))
    refine V.icmp_lt h 74 70 dX5_holds_67 rfl rfl (fun c67 => ?_) (fun c67 => ?_)
    · refine V.iconst h 75 dX5_holds_74 rfl ic1_0 ?_
      refine V.zret h hR (by first | exact bI_z _ | rfl) dX5_holds_75 ?_
      first | exact RI_t ((hv _).mpr (by rw [if_neg c22_0, if_pos c22_1]; simp [nlt c67]; done)) | exact RI_f ((hv _).mpr (by rw [if_neg c22_0, if_pos c22_1]; simp [c67]; done))
    · refine V.iconst h 71 dX5_holds_70 rfl ic1_1 (V.goto h 75 dX5_holds_71 rfl ?_)
      refine V.zret h hR (by first | exact bI_z _ | rfl) dX5_holds_75 ?_
      first | exact RI_t ((hv _).mpr (by rw [if_neg c22_0, if_pos c22_1]; simp [nlt c67]; done)) | exact RI_f ((hv _).mpr (by rw [if_neg c22_0, if_pos c22_1]; simp [c67]; done))
  refine V.tcase (off := 54) h (2 : Int32) 76 dX5_holds_22 (by decide) (by decide +kernel) rfl (fun c22_2 => ?_) (fun c22_2 => ?_)
  · refine V.aload0 h 77 dX5_holds_76 rfl (V.iload3 h 78 dX5_holds_77 rfl (V.aload0 h 79 dX5_holds_78 rfl (V.iload1 h 80 dX5_holds_79 rfl (V.iconst h 81 dX5_holds_80 rfl ic1_2 (V.callVf (As := [.int _, .int _]) (st := [.int _, .ref _]) h 84 dX5_holds_81 rfl k648 k645 k647 ks63 k6 hd_X5_of ⟨(Nat.le_of_ble_eq_true rfl), (Nat.le_of_ble_eq_true rfl)⟩ (Nat.le_of_ble_eq_true rfl) mo rfl rfl ⟨Nat.zero_le _, Nat.zero_le _⟩ (c_X5_of 2 rfl (by omega) (by decide)) rfl (V.callVf (As := [.int _, .int _]) (st := []) h 87 dX5_holds_84 rfl k707 k704 k706 ks76 k6 hd_X5_manyFor ⟨(Nat.le_of_ble_eq_true rfl), (Nat.le_of_ble_eq_true rfl)⟩ (Nat.le_of_ble_eq_true rfl) mo rfl rfl ⟨Nat.zero_le _, Nat.zero_le _⟩ c_X5_manyFor rfl (V.iload4 h 89 dX5_holds_87 rfl ?_)))))))
    refine V.icmp_lt h 96 92 dX5_holds_89 rfl rfl (fun c89 => ?_) (fun c89 => ?_)
    · refine V.iconst h 97 dX5_holds_96 rfl ic1_0 ?_
      refine V.zret h hR (by first | exact bI_z _ | rfl) dX5_holds_97 ?_
      first | exact RI_t ((hv _).mpr (by rw [if_neg c22_0, if_neg c22_1, if_pos c22_2]; simp [nlt c89]; done)) | exact RI_f ((hv _).mpr (by rw [if_neg c22_0, if_neg c22_1, if_pos c22_2]; simp [c89]; done))
    · refine V.iconst h 93 dX5_holds_92 rfl ic1_1 (V.goto h 97 dX5_holds_93 rfl ?_)
      refine V.zret h hR (by first | exact bI_z _ | rfl) dX5_holds_97 ?_
      first | exact RI_t ((hv _).mpr (by rw [if_neg c22_0, if_neg c22_1, if_pos c22_2]; simp [nlt c89]; done)) | exact RI_f ((hv _).mpr (by rw [if_neg c22_0, if_neg c22_1, if_pos c22_2]; simp [c89]; done))
  refine V.tcase (off := 76) h (3 : Int32) 98 dX5_holds_22 (by decide) (by decide +kernel) rfl (fun c22_3 => ?_) (fun c22_3 => ?_)
  · refine V.aload0 h 99 dX5_holds_98 rfl (V.iload2 h 100 dX5_holds_99 rfl (V.iload4 h 102 dX5_holds_100 rfl (V.callVf (As := [.int _, .int _]) (st := []) h 105 dX5_holds_102 rfl k711 k708 k710 ks77 k6 hd_X5_isOf ⟨(Nat.le_of_ble_eq_true rfl), (Nat.le_of_ble_eq_true rfl)⟩ (Nat.le_of_ble_eq_true rfl) mo rfl rfl ⟨Nat.zero_le _, Nat.zero_le _⟩ c_X5_isOf rfl ?_)))
    refine V.zret h hR (by first | exact bI_z _ | rfl) dX5_holds_105 ?_
    exact RI_r (by rw [(hv _).mpr rfl, if_neg c22_0, if_neg c22_1, if_neg c22_2, if_pos c22_3])
  refine V.tdflt h 106 dX5_holds_22 (by have e0 := lv_neT (a := 0) c22_0 (by decide); have e1 := lv_neT (a := 1) c22_1 (by decide); have e2 := lv_neT (a := 2) c22_2 (by decide); have e3 := lv_neT (a := 3) c22_3 (by decide); omega) rfl ?_
  obtain ⟨j, hj, e5⟩ : ∃ j, j < 4 ∧ sF (M 0) k 5 = nI j := by
    rcases hok with q | q | q | q | q
    · exact absurd q c22_0
    · exact absurd q c22_1
    · exact absurd q c22_2
    · exact absurd q c22_3
    · exact q
  rw [e5] at hv
  rw [nI_tn (by omega)] at hv
  rw [e5]
  refine V.aload0 h 107 dX5_holds_106 rfl (V.iload2 h 108 dX5_holds_107 rfl (V.iload4 h 110 dX5_holds_108 rfl (V.callVf (As := [.int _, .int _]) (st := []) h 113 dX5_holds_110 rfl k703 k700 k702 ks75 k6 hd_X5_moneyFor ⟨(Nat.le_of_ble_eq_true rfl), (Nat.le_of_ble_eq_true rfl)⟩ (Nat.le_of_ble_eq_true rfl) mo rfl rfl ⟨Nat.zero_le _, Nat.zero_le _⟩ c_X5_moneyFor rfl (V.aload0 h 114 dX5_holds_113 rfl (V.iload4 h 116 dX5_holds_114 rfl (V.callVf (As := [.int _]) (st := [.int _]) h 119 dX5_holds_116 rfl k715 k712 k714 ks78 k6 hd_X5_goal ⟨(Nat.le_of_ble_eq_true rfl), (Nat.le_of_ble_eq_true rfl)⟩ (Nat.le_of_ble_eq_true rfl) mo rfl rfl ⟨Nat.zero_le _, Nat.zero_le _⟩ (c_X5_goal (by assumption)) rfl ?_))))))
  refine V.icmp_lt h 126 122 dX5_holds_119 rfl rfl (fun c119 => ?_) (fun c119 => ?_)
  · refine V.iconst h 127 dX5_holds_126 rfl ic1_0 ?_
    refine V.zret h hR (by first | exact bI_z _ | rfl) dX5_holds_127 ?_
    first | exact RI_t ((hv _).mpr (by rw [if_neg c22_0, if_neg c22_1, if_neg c22_2, if_neg c22_3]; simp [nlt c119]; done)) | exact RI_f ((hv _).mpr (by rw [if_neg c22_0, if_neg c22_1, if_neg c22_2, if_neg c22_3]; simp [c119]; done))
  · refine V.iconst h 123 dX5_holds_122 rfl ic1_1 (V.goto h 127 dX5_holds_123 rfl ?_)
    refine V.zret h hR (by first | exact bI_z _ | rfl) dX5_holds_127 ?_
    first | exact RI_t ((hv _).mpr (by rw [if_neg c22_0, if_neg c22_1, if_neg c22_2, if_neg c22_3]; simp [nlt c119]; done)) | exact RI_f ((hv _).mpr (by rw [if_neg c22_0, if_neg c22_1, if_neg c22_2, if_neg c22_3]; simp [c119]; done))
theorem c_X5_fallingOf {M : Pl} {b : Nat} {S C : Int32} {w : Wd} (hok : ∀ k, k < 12 → Bt S k = true → kOK (vP (M 0)) k) : K_X5_fallingOf [.ref b, .int S, .int C] (ms w b M) (RI (fal (vP (M 0)) (M 6 0, M 7 0) S C) (ms w b M)) := by
  refine Con.mk [some (.ref b), some (.int S), some (.int C), none, none] (by decide) rfl rfl (Nat.le_of_ble_eq_true rfl) (fun X h hR hnm => ?_)
  have L : ∀ (n i : Nat) (s : Int32), i + n = 12 → s = mk (fun k => Bt S k && !hld (vP (M 0)) (M 6 0, M 7 0) k (S ||| C)) i → V X 0 0 5 [some (.ref b), some (.int S), some (.int C), some (.int s), some (.int (nI i))] [] (ms w b M) := by
    intro n
    induction n with
    | zero =>
      intro i s hi hs
      obtain rfl : i = 12 := by omega
      refine V.iload4 h 7 dX5_fallingOf_5 rfl (V.bipush h 9 dX5_fallingOf_7 rfl ic2_12 ?_)
      refine V.icmp_ge h 50 12 dX5_fallingOf_9 rfl rfl (fun _ => ?_) (fun q => absurd (lp_out (n := 12)) q)
      refine V.iload3 h 51 dX5_fallingOf_50 rfl ?_
      refine V.iret h hR dX5_fallingOf_51 ?_
      exact RI_r hs
    | succ n ih =>
      intro i s hi hs
      refine V.iload4 h 7 dX5_fallingOf_5 rfl (V.bipush h 9 dX5_fallingOf_7 rfl ic2_12 ?_)
      refine V.icmp_ge h 50 12 dX5_fallingOf_9 rfl rfl (fun q => absurd q (lp_in (n := 12) (by omega))) (fun _ => ?_)
      refine V.iload3 h 13 dX5_fallingOf_12 rfl (V.iload1 h 14 dX5_fallingOf_13 rfl (V.iload4 h 16 dX5_fallingOf_14 rfl (V.callSf (As := [.int _, .int _]) (st := [.int _]) h 19 dX5_fallingOf_16 rfl k663 k661 k662 k6 hd_X5_has ⟨(Nat.le_of_ble_eq_true rfl), (Nat.le_of_ble_eq_true rfl)⟩ (Nat.le_of_ble_eq_true rfl) ⟨Nat.zero_le _, Nat.zero_le _⟩ (c_X5_has (by omega)) rfl ?_)))
      refine V.bif_eq h 41 22 dX5_fallingOf_19 rfl rfl (fun c19 => ?_) (fun c19 => ?_)
      · refine V.iconst h 42 dX5_fallingOf_41 rfl ic1_0 (V.ior h 43 dX5_fallingOf_42 rfl (V.istore3 h 44 dX5_fallingOf_43 rfl rfl (V.incN4 h 47 dX5_fallingOf_44 rfl rfl (V.goto h 5 dX5_fallingOf_47 rfl ?_))))
        first | exact ih (i + 1) _ (by omega) (mkt hs (by simp [*]; done)) | exact ih (i + 1) _ (by omega) (mkf0 hs (by simp [*]; done))
      · refine V.aload0 h 23 dX5_fallingOf_22 rfl (V.iload4 h 25 dX5_fallingOf_23 rfl (V.iload1 h 26 dX5_fallingOf_25 rfl (V.iload2 h 27 dX5_fallingOf_26 rfl (V.ior h 28 dX5_fallingOf_27 rfl (V.callVf (As := [.int _, .int _]) (st := [.int _]) h 31 dX5_fallingOf_28 rfl k699 k696 k698 ks74 k6 hd_X5_holds ⟨(Nat.le_of_ble_eq_true rfl), (Nat.le_of_ble_eq_true rfl)⟩ (Nat.le_of_ble_eq_true rfl) mo rfl rfl ⟨Nat.zero_le _, Nat.zero_le _⟩ (c_X5_holds (by omega) (hok _ (by omega) (by assumption))) rfl ?_)))))
        refine V.bif_ne h 41 34 dX5_fallingOf_31 rfl rfl (fun c31 => ?_) (fun c31 => ?_)
        · refine V.iconst h 42 dX5_fallingOf_41 rfl ic1_0 (V.ior h 43 dX5_fallingOf_42 rfl (V.istore3 h 44 dX5_fallingOf_43 rfl rfl (V.incN4 h 47 dX5_fallingOf_44 rfl rfl (V.goto h 5 dX5_fallingOf_47 rfl ?_))))
          first | exact ih (i + 1) _ (by omega) (mkt hs (by simp [*]; done)) | exact ih (i + 1) _ (by omega) (mkf0 hs (by simp [*]; done))
        · refine V.iconst h 35 dX5_fallingOf_34 rfl ic1_1 (V.iload4 h 37 dX5_fallingOf_35 rfl (V.ishl h 38 dX5_fallingOf_37 rfl (V.goto h 42 dX5_fallingOf_38 rfl (V.ior h 43 dX5_fallingOf_42 rfl (V.istore3 h 44 dX5_fallingOf_43 rfl rfl (V.incN4 h 47 dX5_fallingOf_44 rfl rfl (V.goto h 5 dX5_fallingOf_47 rfl ?_)))))))
          first | exact ih (i + 1) _ (by omega) (mkt hs (by simp [*]; done)) | exact ih (i + 1) _ (by omega) (mkf0 hs (by simp [*]; done))
  refine V.iconst h 1 dX5_fallingOf_0 rfl ic1_0 (V.istore3 h 2 dX5_fallingOf_1 rfl rfl (V.iconst h 3 dX5_fallingOf_2 rfl ic1_0 (V.istore4 h 5 dX5_fallingOf_3 rfl rfl ?_)))
  exact L 12 0 0 rfl rfl
