/-! the reference: the greatest part, and what stands -/
def sc (M : Pl) (a : Int32) (f : Nat → Int32) : Pl := ua (us M 9 a) 8 f
theorem sc_sc (M : Pl) (a a' : Int32) (f f' : Nat → Int32) : sc (sc M a f) a' f' = sc M a' f' := by
  unfold sc; rw [us_ua _ _ _ (by decide), ua_ua, us_us]
theorem sc_us (M : Pl) (a a' : Int32) (f : Nat → Int32) : us (sc M a f) 9 a' = sc M a' f := by
  unfold sc; rw [us_ua _ _ _ (by decide), us_us]
theorem sc_ua (M : Pl) (a : Int32) (f f' : Nat → Int32) : ua (sc M a f) 8 f' = sc M a f' := by
  unfold sc; rw [ua_ua]
theorem sc_id (M : Pl) (a : Int32) : us M 9 a = sc M a (M 8) := by
  unfold sc
  show us M 9 a = ua (us M 9 a) 8 ((us M 9 a) 8)
  rw [ua_id]
abbrev mX (M : Pl) : Ex := (M 6 0, M 7 0)
theorem c_X5_greatest {M : Pl} {b : Nat} {S C : Int32} {w : Wd} (hok : ∀ k, k < 12 → Bt S k = true → kOK (vP (M 0)) k) : K_X5_greatest [.ref b, .int S, .int C] (ms w b M) (RI (grt (vP (M 0)) (mX M) S C) (ms w b (sc M (nI (nw (vP (M 0)) (mX M) S C 12)) (wvm (vP (M 0)) (mX M) S C (M 8) 12)))) := by
  refine Con.mk [some (.ref b), some (.int S), some (.int C), none, none, none] (by decide) rfl rfl (Nat.le_of_ble_eq_true rfl) (fun X h hR hnm => ?_)
  have hokn : ∀ n k, k < 12 → Bt (gs (vP (M 0)) (mX M) C n S) k = true → kOK (vP (M 0)) k := fun n k hk h => hok k hk (gs_sub n h)
  -- the loop over the places
  have L2 : ∀ (d i : Nat) (n : Nat) (T F : Int32) (old f : Nat → Int32), i + d = 12 → f = (fun k => if (decide (k < i) && Bt F k) = true then nI (n + 1) else old k) →
      V X 0 0 77 [some (.ref b), some (.int S), some (.int C), some (.int T), some (.int F), some (.int (nI 12))] [] (ms w b (sc M (nI (n + 1)) (fun k => if (decide (k < 12) && Bt F k) = true then nI (n + 1) else old k))) →
      V X 0 0 33 [some (.ref b), some (.int S), some (.int C), some (.int T), some (.int F), some (.int (nI i))] [] (ms w b (sc M (nI (n + 1)) f)) := by
    intro d
    induction d with
    | zero =>
      intro i n T F old f hi hf k
      subst hf
      obtain rfl : i = 12 := by omega
      refine V.iload5 h 35 dX5_greatest_33 rfl (V.bipush h 37 dX5_greatest_35 rfl ic2_12 ?_)
      refine V.icmp_ge h 77 40 dX5_greatest_37 rfl rfl (fun _ => ?_) (fun q => absurd (lp_out (n := 12)) q)
      exact k
    | succ d ih =>
      intro i n T F old f hi hf k
      have st : ∀ x : Int32, x = (if Bt F i = true then nI (n + 1) else f i) → ua (sc M (nI (n + 1)) f) 8 (upd ((sc M (nI (n + 1)) f) 8) i x) = sc M (nI (n + 1)) (fun k => if (decide (k < i + 1) && Bt F k) = true then nI (n + 1) else old k) := by
        intro x hx
        rw [sc_ua]
        congr 1
        show upd f i x = _
        funext q
        unfold upd
        by_cases hq : q = i
        · subst hq
          rw [if_pos rfl, hx, hf]
          cases hb : Bt F q <;> simp
        · rw [if_neg hq, hf]
          have : decide (q < i + 1) = decide (q < i) := decide_eq_decide.mpr (by omega)
          dsimp only
          rw [this]
      refine V.iload5 h 35 dX5_greatest_33 rfl (V.bipush h 37 dX5_greatest_35 rfl ic2_12 ?_)
      refine V.icmp_ge h 77 40 dX5_greatest_37 rfl rfl (fun q => absurd q (lp_in (n := 12) (by omega))) (fun _ => ?_)
      refine V.aload0 h 41 dX5_greatest_40 rfl (V.gX5 h 8 44 dX5_greatest_41 rfl rfl k552 mo rfl (V.iload5 h 46 dX5_greatest_44 rfl (V.iload4 h 48 dX5_greatest_46 rfl (V.iload5 h 50 dX5_greatest_48 rfl (V.callSf (As := [.int _, .int _]) (st := [.int _, .ref _]) h 53 dX5_greatest_50 rfl k663 k661 k662 k6 hd_X5_has ⟨(Nat.le_of_ble_eq_true rfl), (Nat.le_of_ble_eq_true rfl)⟩ (Nat.le_of_ble_eq_true rfl) ⟨Nat.zero_le _, Nat.zero_le _⟩ (c_X5_has (by omega)) rfl ?_)))))
      refine V.bif_eq h 63 56 dX5_greatest_53 rfl rfl (fun c53 => ?_) (fun c53 => ?_)
      · refine V.aload0 h 64 dX5_greatest_63 rfl (V.gX5 h 8 67 dX5_greatest_64 rfl rfl k552 mo rfl (V.iload5 h 69 dX5_greatest_67 rfl (V.ialdN h 70 dX5_greatest_69 rfl ma5 (by omega) (by decide) (V.iastN h 71 dX5_greatest_70 rfl ma5 (by omega) (by decide) (V.at _ mw5 (V.incN5 h 74 dX5_greatest_71 rfl rfl (V.goto h 33 dX5_greatest_74 rfl ?_)))))))
        rw [st _ (by first | (rw [if_pos c53]; rfl) | (rw [if_neg (by rw [c53]; decide)]; rfl))]; exact ih (i + 1) n T F old _ (by omega) rfl k
      · refine V.aload0 h 57 dX5_greatest_56 rfl (V.gX5 h 9 60 dX5_greatest_57 rfl rfl k553 mo rfl (V.goto h 70 dX5_greatest_60 rfl (V.iastN h 71 dX5_greatest_70 rfl ma5 (by omega) (by decide) (V.at _ mw5 (V.incN5 h 74 dX5_greatest_71 rfl rfl (V.goto h 33 dX5_greatest_74 rfl ?_))))))
        rw [st _ (by first | (rw [if_pos c53]; rfl) | (rw [if_neg (by rw [c53]; decide)]; rfl))]; exact ih (i + 1) n T F old _ (by omega) rfl k
  have L : ∀ (d n : Nat) (u : Option Value), n + d = 13 → (∀ i, i < n → fal (vP (M 0)) (mX M) (gs (vP (M 0)) (mX M) C i S) C ≠ 0) →
      V X 0 0 15 [some (.ref b), some (.int S), some (.int C), some (.int (gs (vP (M 0)) (mX M) C n S)), some (.int (fal (vP (M 0)) (mX M) (gs (vP (M 0)) (mX M) C n S) C)), u] [] (ms w b (sc M (nI n) (wvm (vP (M 0)) (mX M) S C (M 8) n))) := by
    intro d
    induction d with
    | zero =>
      intro n u hn hne
      have := fal_le12 hne
      omega
    | succ d ih =>
      intro n u hn hne
      refine V.iload4 h 17 dX5_greatest_15 rfl ?_
      refine V.if_eq h 95 20 dX5_greatest_17 rfl rfl (fun c17 => ?_) (fun c17 => ?_)
      · refine V.iload3 h 96 dX5_greatest_95 rfl ?_
        refine V.iret h hR dX5_greatest_96 ?_
        have h0 : fal (vP (M 0)) (mX M) (gs (vP (M 0)) (mX M) C n S) C = 0 := c17
        have h12 := fal_le12 hne
        obtain ⟨m, hm⟩ : ∃ m, 12 = n + m := ⟨12 - n, by omega⟩
        exact ⟨by rw [gs_grt h0 h12], by rw [hm, nw_end hne h0, wvm_end h0]⟩
      · refine V.aload0 h 21 dX5_greatest_20 rfl (V.dup h 22 dX5_greatest_21 rfl rfl (V.gX5 h 9 25 dX5_greatest_22 rfl rfl k553 mo rfl (V.iconst h 26 dX5_greatest_25 rfl ic1_1 (V.iadd h 27 dX5_greatest_26 rfl ?_))))
        rw [show (sc M (nI n) (wvm (vP (M 0)) (mX M) S C (M 8) n)) 9 0 + 1 = nI (n + 1) from (nI_succ n).symm]
        refine V.sX5 h 9 30 dX5_greatest_27 rfl rfl k553 rfl rfl rfl mo rfl (V.at _ mp9 (V.iconst h 31 dX5_greatest_30 rfl ic1_0 (V.istore5 h 33 dX5_greatest_31 rfl rfl ?_)))
        rw [sc_us]
        refine L2 12 0 n _ _ (wvm (vP (M 0)) (mX M) S C (M 8) n) _ rfl (by funext k; simp; done) ?_
        have e1 : (fun k => if (decide (k < 12) && Bt (fal (vP (M 0)) (mX M) (gs (vP (M 0)) (mX M) C n S) C) k) = true then nI (n + 1) else wvm (vP (M 0)) (mX M) S C (M 8) n k) = wvm (vP (M 0)) (mX M) S C (M 8) (n + 1) := rfl
        rw [e1]
        refine V.iload3 h 78 dX5_greatest_77 rfl (V.iload4 h 80 dX5_greatest_78 rfl (V.iconst h 81 dX5_greatest_80 rfl ic1_m1 (V.ixor h 82 dX5_greatest_81 rfl (V.iand h 83 dX5_greatest_82 rfl (V.istore3 h 84 dX5_greatest_83 rfl rfl (V.aload0 h 85 dX5_greatest_84 rfl (V.iload3 h 86 dX5_greatest_85 rfl ?_)))))))
        refine V.iload2 h 87 dX5_greatest_86 rfl (V.callVf (As := [.int _, .int _]) (st := []) h 90 dX5_greatest_87 rfl k695 k692 k694 ks73 k6 hd_X5_fallingOf ⟨(Nat.le_of_ble_eq_true rfl), (Nat.le_of_ble_eq_true rfl)⟩ (Nat.le_of_ble_eq_true rfl) mo rfl rfl ⟨Nat.zero_le _, Nat.zero_le _⟩ (c_X5_fallingOf (hokn (n + 1))) rfl (V.istore4 h 92 dX5_greatest_90 rfl rfl (V.goto h 15 dX5_greatest_92 rfl ?_)))
        refine ih (n + 1) _ (by omega) (fun i hi => ?_)
        by_cases hin : i = n
        · subst hin; exact c17
        · exact hne i (by omega)
  refine V.iload1 h 1 dX5_greatest_0 rfl (V.istore3 h 2 dX5_greatest_1 rfl rfl (V.aload0 h 3 dX5_greatest_2 rfl (V.iload3 h 4 dX5_greatest_3 rfl (V.iload2 h 5 dX5_greatest_4 rfl (V.callVf (As := [.int _, .int _]) (st := []) h 8 dX5_greatest_5 rfl k695 k692 k694 ks73 k6 hd_X5_fallingOf ⟨(Nat.le_of_ble_eq_true rfl), (Nat.le_of_ble_eq_true rfl)⟩ (Nat.le_of_ble_eq_true rfl) mo rfl rfl ⟨Nat.zero_le _, Nat.zero_le _⟩ (c_X5_fallingOf hok) rfl (V.istore4 h 10 dX5_greatest_8 rfl rfl ?_))))))
  rw [show (fal (vP (M 0)) (M 6 0, M 7 0) S C) = fal (vP (M 0)) (mX M) (gs (vP (M 0)) (mX M) C 0 S) C from rfl]
  refine V.aload0 h 11 dX5_greatest_10 rfl (V.iconst h 12 dX5_greatest_11 rfl ic1_0 (V.sX5 h 9 15 dX5_greatest_12 rfl rfl k553 rfl rfl rfl mo rfl (V.at _ mp9 ?_)))
  rw [sc_id]; exact L 13 0 none rfl (fun i hi => absurd hi (by omega))
theorem c_X5_called {M : Pl} {b : Nat} {w : Wd} : K_X5_called [.ref b] (ms w b M) (RI (vP (M 0) 7 0) (ms w b M)) := by
  refine Con.mk [some (.ref b)] (by decide) rfl rfl (Nat.le_of_ble_eq_true rfl) (fun X h hR hnm => ?_)
  refine V.aload0 h 1 dX5_called_0 rfl (V.iconst h 2 dX5_called_1 rfl ic1_0 (V.iconst h 3 dX5_called_2 rfl ic1_1 (V.callVf (As := [.int _, .int _]) (st := []) h 6 dX5_called_3 rfl k656 k653 k655 ks65 k6 hd_X5_pledges ⟨(Nat.le_of_ble_eq_true rfl), (Nat.le_of_ble_eq_true rfl)⟩ (Nat.le_of_ble_eq_true rfl) mo rfl rfl ⟨Nat.zero_le _, Nat.zero_le _⟩ (c_X5_pledges (o := false) (c := true)) rfl ?_)))
  refine V.iret h hR dX5_called_6 ?_
  exact RI_r (show _ = mk (fun j => sThere (M 0) j && sCalled (M 0) j) 12 from mk_congr fun k _ => by cases sCalled (M 0) k <;> rfl)
theorem c_X5_open {M : Pl} {b : Nat} {w : Wd} : K_X5_open [.ref b] (ms w b M) (RI (vP (M 0) 6 0) (ms w b M)) := by
  refine Con.mk [some (.ref b)] (by decide) rfl rfl (Nat.le_of_ble_eq_true rfl) (fun X h hR hnm => ?_)
  refine V.aload0 h 1 dX5_open_0 rfl (V.iconst h 2 dX5_open_1 rfl ic1_1 (V.iconst h 3 dX5_open_2 rfl ic1_0 (V.callVf (As := [.int _, .int _]) (st := []) h 6 dX5_open_3 rfl k656 k653 k655 ks65 k6 hd_X5_pledges ⟨(Nat.le_of_ble_eq_true rfl), (Nat.le_of_ble_eq_true rfl)⟩ (Nat.le_of_ble_eq_true rfl) mo rfl rfl ⟨Nat.zero_le _, Nat.zero_le _⟩ (c_X5_pledges (o := true) (c := false)) rfl ?_)))
  refine V.iret h hR dX5_open_6 ?_
  exact RI_r (show _ = mk (fun j => sThere (M 0) j && !sCalled (M 0) j) 12 from mk_congr fun k _ => by cases sCalled (M 0) k <;> rfl)
theorem c_X5_all {M : Pl} {b : Nat} {w : Wd} : K_X5_pledges [.ref b, .int 1, .int 1] (ms w b M) (RI (live (vP (M 0))) (ms w b M)) := by
  have h := c_X5_pledges (M := M) (b := b) (o := true) (c := true) (w := w)
  have e : mk (fun k => sThere (M 0) k && (if sCalled (M 0) k = true then true else true)) 12 = live (vP (M 0)) := by
    refine lo12_ext (lo12_mk _) (lo12_or (lo12_mk _) (lo12_mk _)) fun k hk => ?_
    unfold live
    rw [bt_or, bt_mk _ _ _ (by decide)]
    show _ = (Bt (mk _ 12) k || Bt (mk _ 12) k)
    rw [bt_mk _ _ _ (by decide), bt_mk _ _ _ (by decide)]
    cases sCalled (M 0) k <;> simp
  rw [← e]
  exact h
def nwP (P : Pl) (x : Ex) (g : Int32) : Nat := nw P x (P 6 0 &&& (g ^^^ (-1))) (P 7 0) 12
def wvP (P : Pl) (x : Ex) (g : Int32) (old : Nat → Int32) : Nat → Int32 := wvm P x (P 6 0 &&& (g ^^^ (-1))) (P 7 0) old 12
/-- all open pledges can be looked at -/
def sOK (s : Nat → Int32) : Prop := ∀ k, k < 12 → Bt (vP s 6 0) k = true → kOK (vP s) k
theorem c_X5_stands {M : Pl} {b : Nat} {g : Int32} {w : Wd} (hok : sOK (M 0)) : K_X5_stands [.ref b, .int g] (ms w b M) (RI (std (vP (M 0)) (mX M) g) (ms w b (sc M (nI (nwP (vP (M 0)) (mX M) g)) (wvP (vP (M 0)) (mX M) g (M 8))))) := by
  refine Con.mk [some (.ref b), some (.int g), none] (by decide) rfl rfl (Nat.le_of_ble_eq_true rfl) (fun X h hR hnm => ?_)
  refine V.aload0 h 1 dX5_stands_0 rfl (V.callVf (As := []) (st := []) h 4 dX5_stands_1 rfl k687 k684 k686 ks71 k6 hd_X5_called ⟨(Nat.le_of_ble_eq_true rfl), (Nat.le_of_ble_eq_true rfl)⟩ (Nat.le_of_ble_eq_true rfl) mo rfl rfl ⟨Nat.zero_le _, Nat.zero_le _⟩ c_X5_called rfl (V.istore2 h 5 dX5_stands_4 rfl rfl (V.aload0 h 6 dX5_stands_5 rfl (V.aload0 h 7 dX5_stands_6 rfl (V.callVf (As := []) (st := [.ref _]) h 10 dX5_stands_7 rfl k652 k649 k651 ks64 k6 hd_X5_open ⟨(Nat.le_of_ble_eq_true rfl), (Nat.le_of_ble_eq_true rfl)⟩ (Nat.le_of_ble_eq_true rfl) mo rfl rfl ⟨Nat.zero_le _, Nat.zero_le _⟩ c_X5_open rfl (V.iload1 h 11 dX5_stands_10 rfl (V.iconst h 12 dX5_stands_11 rfl ic1_m1 ?_)))))))
  refine V.ixor h 13 dX5_stands_12 rfl (V.iand h 14 dX5_stands_13 rfl (V.iload2 h 15 dX5_stands_14 rfl (V.callVf (As := [.int _, .int _]) (st := []) h 18 dX5_stands_15 rfl k691 k688 k690 ks72 k6 hd_X5_greatest ⟨(Nat.le_of_ble_eq_true rfl), (Nat.le_of_ble_eq_true rfl)⟩ (Nat.le_of_ble_eq_true rfl) mo rfl rfl ⟨Nat.zero_le _, Nat.zero_le _⟩ (c_X5_greatest (fun k hk h => hok k hk (by rw [bt_and, Bool.and_eq_true] at h; exact h.1))) rfl (V.iload2 h 19 dX5_stands_18 rfl (V.ior h 20 dX5_stands_19 rfl ?_)))))
  refine V.iret h hR dX5_stands_20 ?_
  exact ⟨rfl, rfl⟩
theorem c_X5_hasGoal {M : Pl} {b j : Nat} {S : Int32} {w : Wd} (hj : j < 4) : K_X5_hasGoal [.ref b, .int S, .int (nI j)] (ms w b M) (RI (bI (hasG (vP (M 0)) (mX M) S (nI j))) (ms w b M)) := by
  refine Con.mk [some (.ref b), some (.int S), some (.int (nI j))] (by decide) rfl rfl (Nat.le_of_ble_eq_true rfl) (fun X h hR hnm => ?_)
  have e : hasG (vP (M 0)) (mX M) S (nI j) = decide (vP (M 0) 1 j ≤ mny (vP (M 0)) (mX M) S (nI j)) := by unfold hasG; rw [nI_tn (by omega)]
  rw [e] at hR
  refine V.aload0 h 1 dX5_hasGoal_0 rfl (V.iload1 h 2 dX5_hasGoal_1 rfl (V.iload2 h 3 dX5_hasGoal_2 rfl (V.callVf (As := [.int _, .int _]) (st := []) h 6 dX5_hasGoal_3 rfl k703 k700 k702 ks75 k6 hd_X5_moneyFor ⟨(Nat.le_of_ble_eq_true rfl), (Nat.le_of_ble_eq_true rfl)⟩ (Nat.le_of_ble_eq_true rfl) mo rfl rfl ⟨Nat.zero_le _, Nat.zero_le _⟩ c_X5_moneyFor rfl (V.aload0 h 7 dX5_hasGoal_6 rfl (V.iload2 h 8 dX5_hasGoal_7 rfl (V.callVf (As := [.int _]) (st := [.int _]) h 11 dX5_hasGoal_8 rfl k715 k712 k714 ks78 k6 hd_X5_goal ⟨(Nat.le_of_ble_eq_true rfl), (Nat.le_of_ble_eq_true rfl)⟩ (Nat.le_of_ble_eq_true rfl) mo rfl rfl ⟨Nat.zero_le _, Nat.zero_le _⟩ (c_X5_goal (by assumption)) rfl ?_))))))
  refine V.icmp_lt h 18 14 dX5_hasGoal_11 rfl rfl (fun c11 => ?_) (fun c11 => ?_)
  · refine V.iconst h 19 dX5_hasGoal_18 rfl ic1_0 ?_
    refine V.zret h hR (by first | exact bI_z _ | rfl) dX5_hasGoal_19 ?_
    first | exact RI_t (by simp [nlt c11]; done) | exact RI_f (by simp [c11]; done)
  · refine V.iconst h 15 dX5_hasGoal_14 rfl ic1_1 (V.goto h 19 dX5_hasGoal_15 rfl ?_)
    refine V.zret h hR (by first | exact bI_z _ | rfl) dX5_hasGoal_19 ?_
    first | exact RI_t (by simp [nlt c11]; done) | exact RI_f (by simp [c11]; done)
theorem c_X5_amountOf {M : Pl} {b : Nat} {S : Int32} {w : Wd} : K_X5_amountOf [.ref b, .int S] (ms w b M) (RI (amt (vP (M 0)) S) (ms w b M)) := by
  refine Con.mk [some (.ref b), some (.int S), none, none] (by decide) rfl rfl (Nat.le_of_ble_eq_true rfl) (fun X h hR hnm => ?_)
  have L : ∀ (n i : Nat) (s : Int32), i + n = 12 → s = sm (fun k => if Bt S k = true then vP (M 0) 10 k else 0) i → V X 0 0 4 [some (.ref b), some (.int S), some (.int s), some (.int (nI i))] [] (ms w b M) := by
    intro n
    induction n with
    | zero =>
      intro i s hi hs
      obtain rfl : i = 12 := by omega
      refine V.iload3 h 5 dX5_amountOf_4 rfl (V.bipush h 7 dX5_amountOf_5 rfl ic2_12 ?_)
      refine V.icmp_ge h 37 10 dX5_amountOf_7 rfl rfl (fun _ => ?_) (fun q => absurd (lp_out (n := 12)) q)
      refine V.iload2 h 38 dX5_amountOf_37 rfl ?_
      refine V.iret h hR dX5_amountOf_38 ?_
      exact RI_r hs
    | succ n ih =>
      intro i s hi hs
      refine V.iload3 h 5 dX5_amountOf_4 rfl (V.bipush h 7 dX5_amountOf_5 rfl ic2_12 ?_)
      refine V.icmp_ge h 37 10 dX5_amountOf_7 rfl rfl (fun q => absurd q (lp_in (n := 12) (by omega))) (fun _ => ?_)
      refine V.iload2 h 11 dX5_amountOf_10 rfl (V.iload1 h 12 dX5_amountOf_11 rfl (V.iload3 h 13 dX5_amountOf_12 rfl (V.callSf (As := [.int _, .int _]) (st := [.int _]) h 16 dX5_amountOf_13 rfl k663 k661 k662 k6 hd_X5_has ⟨(Nat.le_of_ble_eq_true rfl), (Nat.le_of_ble_eq_true rfl)⟩ (Nat.le_of_ble_eq_true rfl) ⟨Nat.zero_le _, Nat.zero_le _⟩ (c_X5_has (by omega)) rfl ?_)))
      refine V.bif_eq h 28 19 dX5_amountOf_16 rfl rfl (fun c16 => ?_) (fun c16 => ?_)
      · refine V.iconst h 29 dX5_amountOf_28 rfl ic1_0 (V.iadd h 30 dX5_amountOf_29 rfl (V.istore2 h 31 dX5_amountOf_30 rfl rfl (V.incN3 h 34 dX5_amountOf_31 rfl rfl (V.goto h 4 dX5_amountOf_34 rfl ?_))))
        exact ih (i + 1) _ (by omega) (stp0 hs (by simp [vP, *]; done))
      · refine V.aload0 h 20 dX5_amountOf_19 rfl (V.iload3 h 21 dX5_amountOf_20 rfl (V.iconst h 22 dX5_amountOf_21 rfl ic1_3 (V.callVf (As := [.int _, .int _]) (st := [.int _]) h 25 dX5_amountOf_22 rfl k648 k645 k647 ks63 k6 hd_X5_of ⟨(Nat.le_of_ble_eq_true rfl), (Nat.le_of_ble_eq_true rfl)⟩ (Nat.le_of_ble_eq_true rfl) mo rfl rfl ⟨Nat.zero_le _, Nat.zero_le _⟩ (c_X5_of 3 rfl (by omega) (by decide)) rfl (V.goto h 29 dX5_amountOf_25 rfl (V.iadd h 30 dX5_amountOf_29 rfl (V.istore2 h 31 dX5_amountOf_30 rfl rfl (V.incN3 h 34 dX5_amountOf_31 rfl rfl ?_)))))))
        refine V.goto h 4 dX5_amountOf_34 rfl ?_
        exact ih (i + 1) _ (by omega) (stp0 hs (by simp [vP, *]; done))
  refine V.iconst h 1 dX5_amountOf_0 rfl ic1_0 (V.istore2 h 2 dX5_amountOf_1 rfl rfl (V.iconst h 3 dX5_amountOf_2 rfl ic1_0 (V.istore3 h 4 dX5_amountOf_3 rfl rfl ?_)))
  exact L 12 0 0 rfl rfl
theorem c_X5_many {S : Int32} {w : Wd} : K_X5_many [.int S] w (RI (cnt S) w) := by
  refine Con.mk [some (.int S), none, none] (by decide) rfl rfl (Nat.le_of_ble_eq_true rfl) (fun X h hR hnm => ?_)
  have L : ∀ (n i : Nat) (s : Int32), i + n = 12 → s = sm (fun k => if Bt S k = true then 1 else 0) i → V X 0 0 4 [some (.int S), some (.int s), some (.int (nI i))] [] w := by
    intro n
    induction n with
    | zero =>
      intro i s hi hs
      obtain rfl : i = 12 := by omega
      refine V.iload2 h 5 dX5_many_4 rfl (V.bipush h 7 dX5_many_5 rfl ic2_12 ?_)
      refine V.icmp_ge h 32 10 dX5_many_7 rfl rfl (fun _ => ?_) (fun q => absurd (lp_out (n := 12)) q)
      refine V.iload1 h 33 dX5_many_32 rfl ?_
      refine V.iret h hR dX5_many_33 ?_
      exact RI_r hs
    | succ n ih =>
      intro i s hi hs
      refine V.iload2 h 5 dX5_many_4 rfl (V.bipush h 7 dX5_many_5 rfl ic2_12 ?_)
      refine V.icmp_ge h 32 10 dX5_many_7 rfl rfl (fun q => absurd q (lp_in (n := 12) (by omega))) (fun _ => ?_)
      refine V.iload1 h 11 dX5_many_10 rfl (V.iload0 h 12 dX5_many_11 rfl (V.iload2 h 13 dX5_many_12 rfl (V.callSf (As := [.int _, .int _]) (st := [.int _]) h 16 dX5_many_13 rfl k663 k661 k662 k6 hd_X5_has ⟨(Nat.le_of_ble_eq_true rfl), (Nat.le_of_ble_eq_true rfl)⟩ (Nat.le_of_ble_eq_true rfl) ⟨Nat.zero_le _, Nat.zero_le _⟩ (c_X5_has (by omega)) rfl ?_)))
      refine V.bif_eq h 23 19 dX5_many_16 rfl rfl (fun c16 => ?_) (fun c16 => ?_)
      · refine V.iconst h 24 dX5_many_23 rfl ic1_0 (V.iadd h 25 dX5_many_24 rfl (V.istore1 h 26 dX5_many_25 rfl rfl (V.incN2 h 29 dX5_many_26 rfl rfl (V.goto h 4 dX5_many_29 rfl ?_))))
        exact ih (i + 1) _ (by omega) (stp0 hs (by simp [*]; done))
      · refine V.iconst h 20 dX5_many_19 rfl ic1_1 (V.goto h 24 dX5_many_20 rfl (V.iadd h 25 dX5_many_24 rfl (V.istore1 h 26 dX5_many_25 rfl rfl (V.incN2 h 29 dX5_many_26 rfl rfl (V.goto h 4 dX5_many_29 rfl ?_)))))
        exact ih (i + 1) _ (by omega) (stp0 hs (by simp [*]; done))
  refine V.iconst h 1 dX5_many_0 rfl ic1_0 (V.istore1 h 2 dX5_many_1 rfl rfl (V.iconst h 3 dX5_many_2 rfl ic1_0 (V.istore2 h 4 dX5_many_3 rfl rfl ?_)))
  exact L 12 0 0 rfl rfl
theorem live_bt (s : Nat → Int32) {k : Nat} (hk : k < 12) : Bt (live (vP s)) k = sThere s k := by
  unfold live
  rw [bt_or]
  show (Bt (mk _ 12) k || Bt (mk _ 12) k) = _
  rw [bt_mk _ _ _ (by decide), bt_mk _ _ _ (by decide)]
  cases sCalled s k <;> simp [hk]
theorem c_X5_ofPerson {M : Pl} {b : Nat} {v : Int32} {w : Wd} : K_X5_ofPerson [.ref b, .int v] (ms w b M) (RI (ofP (vP (M 0)) v) (ms w b M)) := by
  refine Con.mk [some (.ref b), some (.int v), none, none] (by decide) rfl rfl (Nat.le_of_ble_eq_true rfl) (fun X h hR hnm => ?_)
  have L : ∀ (n i : Nat) (s : Int32), i + n = 12 → s = mk (fun k => sThere (M 0) k && decide (vP (M 0) 8 k = v)) i → V X 0 0 4 [some (.ref b), some (.int v), some (.int s), some (.int (nI i))] [] (ms w b M) := by
    intro n
    induction n with
    | zero =>
      intro i s hi hs
      obtain rfl : i = 12 := by omega
      refine V.iload3 h 5 dX5_ofPerson_4 rfl (V.bipush h 7 dX5_ofPerson_5 rfl ic2_12 ?_)
      refine V.icmp_ge h 46 10 dX5_ofPerson_7 rfl rfl (fun _ => ?_) (fun q => absurd (lp_out (n := 12)) q)
      refine V.iload2 h 47 dX5_ofPerson_46 rfl ?_
      refine V.iret h hR dX5_ofPerson_47 ?_
      exact RI_r (hs.trans (mk_congr fun k hk => by rw [live_bt _ hk]))
    | succ n ih =>
      intro i s hi hs
      refine V.iload3 h 5 dX5_ofPerson_4 rfl (V.bipush h 7 dX5_ofPerson_5 rfl ic2_12 ?_)
      refine V.icmp_ge h 46 10 dX5_ofPerson_7 rfl rfl (fun q => absurd q (lp_in (n := 12) (by omega))) (fun _ => ?_)
      refine V.iload2 h 11 dX5_ofPerson_10 rfl (V.aload0 h 12 dX5_ofPerson_11 rfl (V.iload3 h 13 dX5_ofPerson_12 rfl (V.iconst h 14 dX5_ofPerson_13 rfl ic1_0 (V.callVf (As := [.int _, .int _]) (st := [.int _]) h 17 dX5_ofPerson_14 rfl k648 k645 k647 ks63 k6 hd_X5_of ⟨(Nat.le_of_ble_eq_true rfl), (Nat.le_of_ble_eq_true rfl)⟩ (Nat.le_of_ble_eq_true rfl) mo rfl rfl ⟨Nat.zero_le _, Nat.zero_le _⟩ (c_X5_of 0 rfl (by omega) (by decide)) rfl (V.iconst h 18 dX5_ofPerson_17 rfl ic1_1 ?_)))))
      refine V.icmp_ne h 37 21 dX5_ofPerson_18 rfl rfl (fun c18 => ?_) (fun c18 => ?_)
      · refine V.iconst h 38 dX5_ofPerson_37 rfl ic1_0 (V.ior h 39 dX5_ofPerson_38 rfl (V.istore2 h 40 dX5_ofPerson_39 rfl rfl (V.incN3 h 43 dX5_ofPerson_40 rfl rfl (V.goto h 4 dX5_ofPerson_43 rfl ?_))))
        first | exact ih (i + 1) _ (by omega) (mkt hs (by simp [vP, sThere, *]; done)) | exact ih (i + 1) _ (by omega) (mkf0 hs (by simp [vP, sThere, *]; done))
      · refine V.aload0 h 22 dX5_ofPerson_21 rfl (V.iload3 h 23 dX5_ofPerson_22 rfl (V.iconst h 24 dX5_ofPerson_23 rfl ic1_1 (V.callVf (As := [.int _, .int _]) (st := [.int _]) h 27 dX5_ofPerson_24 rfl k648 k645 k647 ks63 k6 hd_X5_of ⟨(Nat.le_of_ble_eq_true rfl), (Nat.le_of_ble_eq_true rfl)⟩ (Nat.le_of_ble_eq_true rfl) mo rfl rfl ⟨Nat.zero_le _, Nat.zero_le _⟩ (c_X5_of 1 rfl (by omega) (by decide)) rfl (V.iload1 h 28 dX5_ofPerson_27 rfl ?_))))
        refine V.icmp_ne h 37 31 dX5_ofPerson_28 rfl rfl (fun c28 => ?_) (fun c28 => ?_)
        · refine V.iconst h 38 dX5_ofPerson_37 rfl ic1_0 (V.ior h 39 dX5_ofPerson_38 rfl (V.istore2 h 40 dX5_ofPerson_39 rfl rfl (V.incN3 h 43 dX5_ofPerson_40 rfl rfl (V.goto h 4 dX5_ofPerson_43 rfl ?_))))
          first | exact ih (i + 1) _ (by omega) (mkt hs (by simp [vP, sThere, *]; done)) | exact ih (i + 1) _ (by omega) (mkf0 hs (by simp [vP, sThere, *]; done))
        · refine V.iconst h 32 dX5_ofPerson_31 rfl ic1_1 (V.iload3 h 33 dX5_ofPerson_32 rfl (V.ishl h 34 dX5_ofPerson_33 rfl (V.goto h 38 dX5_ofPerson_34 rfl (V.ior h 39 dX5_ofPerson_38 rfl (V.istore2 h 40 dX5_ofPerson_39 rfl rfl (V.incN3 h 43 dX5_ofPerson_40 rfl rfl (V.goto h 4 dX5_ofPerson_43 rfl ?_)))))))
          first | exact ih (i + 1) _ (by omega) (mkt hs (by simp [vP, sThere, *]; done)) | exact ih (i + 1) _ (by omega) (mkf0 hs (by simp [vP, sThere, *]; done))
  refine V.iconst h 1 dX5_ofPerson_0 rfl ic1_0 (V.istore2 h 2 dX5_ofPerson_1 rfl rfl (V.iconst h 3 dX5_ofPerson_2 rfl ic1_0 (V.istore3 h 4 dX5_ofPerson_3 rfl rfl ?_)))
  exact L 12 0 0 rfl rfl
theorem c_X5_ofProject {M : Pl} {b : Nat} {v : Int32} {w : Wd} : K_X5_ofProject [.ref b, .int v] (ms w b M) (RI (forP (vP (M 0)) v) (ms w b M)) := by
  refine Con.mk [some (.ref b), some (.int v), none, none] (by decide) rfl rfl (Nat.le_of_ble_eq_true rfl) (fun X h hR hnm => ?_)
  have L : ∀ (n i : Nat) (s : Int32), i + n = 12 → s = mk (fun k => sThere (M 0) k && decide (vP (M 0) 9 k = v)) i → V X 0 0 4 [some (.ref b), some (.int v), some (.int s), some (.int (nI i))] [] (ms w b M) := by
    intro n
    induction n with
    | zero =>
      intro i s hi hs
      obtain rfl : i = 12 := by omega
      refine V.iload3 h 5 dX5_ofProject_4 rfl (V.bipush h 7 dX5_ofProject_5 rfl ic2_12 ?_)
      refine V.icmp_ge h 46 10 dX5_ofProject_7 rfl rfl (fun _ => ?_) (fun q => absurd (lp_out (n := 12)) q)
      refine V.iload2 h 47 dX5_ofProject_46 rfl ?_
      refine V.iret h hR dX5_ofProject_47 ?_
      exact RI_r (hs.trans (mk_congr fun k hk => by rw [live_bt _ hk]))
    | succ n ih =>
      intro i s hi hs
      refine V.iload3 h 5 dX5_ofProject_4 rfl (V.bipush h 7 dX5_ofProject_5 rfl ic2_12 ?_)
      refine V.icmp_ge h 46 10 dX5_ofProject_7 rfl rfl (fun q => absurd q (lp_in (n := 12) (by omega))) (fun _ => ?_)
      refine V.iload2 h 11 dX5_ofProject_10 rfl (V.aload0 h 12 dX5_ofProject_11 rfl (V.iload3 h 13 dX5_ofProject_12 rfl (V.iconst h 14 dX5_ofProject_13 rfl ic1_0 (V.callVf (As := [.int _, .int _]) (st := [.int _]) h 17 dX5_ofProject_14 rfl k648 k645 k647 ks63 k6 hd_X5_of ⟨(Nat.le_of_ble_eq_true rfl), (Nat.le_of_ble_eq_true rfl)⟩ (Nat.le_of_ble_eq_true rfl) mo rfl rfl ⟨Nat.zero_le _, Nat.zero_le _⟩ (c_X5_of 0 rfl (by omega) (by decide)) rfl (V.iconst h 18 dX5_ofProject_17 rfl ic1_1 ?_)))))
      refine V.icmp_ne h 37 21 dX5_ofProject_18 rfl rfl (fun c18 => ?_) (fun c18 => ?_)
      · refine V.iconst h 38 dX5_ofProject_37 rfl ic1_0 (V.ior h 39 dX5_ofProject_38 rfl (V.istore2 h 40 dX5_ofProject_39 rfl rfl (V.incN3 h 43 dX5_ofProject_40 rfl rfl (V.goto h 4 dX5_ofProject_43 rfl ?_))))
        first | exact ih (i + 1) _ (by omega) (mkt hs (by simp [vP, sThere, *]; done)) | exact ih (i + 1) _ (by omega) (mkf0 hs (by simp [vP, sThere, *]; done))
      · refine V.aload0 h 22 dX5_ofProject_21 rfl (V.iload3 h 23 dX5_ofProject_22 rfl (V.iconst h 24 dX5_ofProject_23 rfl ic1_2 (V.callVf (As := [.int _, .int _]) (st := [.int _]) h 27 dX5_ofProject_24 rfl k648 k645 k647 ks63 k6 hd_X5_of ⟨(Nat.le_of_ble_eq_true rfl), (Nat.le_of_ble_eq_true rfl)⟩ (Nat.le_of_ble_eq_true rfl) mo rfl rfl ⟨Nat.zero_le _, Nat.zero_le _⟩ (c_X5_of 2 rfl (by omega) (by decide)) rfl (V.iload1 h 28 dX5_ofProject_27 rfl ?_))))
        refine V.icmp_ne h 37 31 dX5_ofProject_28 rfl rfl (fun c28 => ?_) (fun c28 => ?_)
        · refine V.iconst h 38 dX5_ofProject_37 rfl ic1_0 (V.ior h 39 dX5_ofProject_38 rfl (V.istore2 h 40 dX5_ofProject_39 rfl rfl (V.incN3 h 43 dX5_ofProject_40 rfl rfl (V.goto h 4 dX5_ofProject_43 rfl ?_))))
          first | exact ih (i + 1) _ (by omega) (mkt hs (by simp [vP, sThere, *]; done)) | exact ih (i + 1) _ (by omega) (mkf0 hs (by simp [vP, sThere, *]; done))
        · refine V.iconst h 32 dX5_ofProject_31 rfl ic1_1 (V.iload3 h 33 dX5_ofProject_32 rfl (V.ishl h 34 dX5_ofProject_33 rfl (V.goto h 38 dX5_ofProject_34 rfl (V.ior h 39 dX5_ofProject_38 rfl (V.istore2 h 40 dX5_ofProject_39 rfl rfl (V.incN3 h 43 dX5_ofProject_40 rfl rfl (V.goto h 4 dX5_ofProject_43 rfl ?_)))))))
          first | exact ih (i + 1) _ (by omega) (mkt hs (by simp [vP, sThere, *]; done)) | exact ih (i + 1) _ (by omega) (mkf0 hs (by simp [vP, sThere, *]; done))
  refine V.iconst h 1 dX5_ofProject_0 rfl ic1_0 (V.istore2 h 2 dX5_ofProject_1 rfl rfl (V.iconst h 3 dX5_ofProject_2 rfl ic1_0 (V.istore3 h 4 dX5_ofProject_3 rfl rfl ?_)))
  exact L 12 0 0 rfl rfl
