/-! the reference: changes -/
abbrev mz (w : Wd) (b : Nat) (M : Pl) (s : Nat → Int32) : Wd := ms w b (ua M 0 s)
section MZ
variable {w : Wd} {b : Nat} {M : Pl} {s : Nat → Int32}
theorem za1 : (mz w b M s).2 (b + 1) = some (ints 125 s) := ma1
theorem zw1 {f : Nat → Int32} : wset (mz w b M s) (b + 1) (ints 125 f) = mz w b M f := by rw [mw1, ua_ua]
theorem z_sc {a : Int32} {f : Nat → Int32} : sc (ua M 0 s) a f = ua (sc M a f) 0 s := by
  unfold sc
  rw [us_ua _ _ _ (by decide), ua_comm _ _ _ (by decide)]
theorem c_of {k : Nat} {v : Int32} (f : Nat) (hv : v = nI f) (hk : k < 12) (hf : f < 8) : K_X5_of [.ref b, .int (nI k), .int v] (mz w b M s) (RI (sF s k f) (mz w b M s)) := c_X5_of f hv hk hf
theorem c_isClosed {j : Nat} (hj : j < 4) : K_X5_isClosed [.ref b, .int (nI j)] (mz w b M s) (RI (bI (decide (s (5 + 2 * j + 1) = 1))) (mz w b M s)) := c_X5_isClosed hj
theorem c_isProject {v : Int32} : K_X5_isProject [.ref b, .int v] (mz w b M s) (RI (bI (decide (0 ≤ v) && decide (v ≤ s 0 - 1))) (mz w b M s)) := c_X5_isProject
theorem c_isPerson {v : Int32} : K_X5_isPerson [.ref b, .int v] (mz w b M s) (RI (bI (decide (0 ≤ v) && decide (v ≤ s 1 - 1))) (mz w b M s)) := c_X5_isPerson
theorem c_open : K_X5_open [.ref b] (mz w b M s) (RI (vP s 6 0) (mz w b M s)) := c_X5_open
theorem c_amountOf {S : Int32} : K_X5_amountOf [.ref b, .int S] (mz w b M s) (RI (amt (vP s) S) (mz w b M s)) := c_X5_amountOf
theorem c_ofPerson {v : Int32} : K_X5_ofPerson [.ref b, .int v] (mz w b M s) (RI (ofP (vP s) v) (mz w b M s)) := c_X5_ofPerson
theorem c_ofProject {v : Int32} : K_X5_ofProject [.ref b, .int v] (mz w b M s) (RI (forP (vP s) v) (mz w b M s)) := c_X5_ofProject
theorem c_hasGoal {j : Nat} {S : Int32} (hj : j < 4) : K_X5_hasGoal [.ref b, .int S, .int (nI j)] (mz w b M s) (RI (bI (hasG (vP s) (mX M) S (nI j))) (mz w b M s)) := c_X5_hasGoal hj
theorem c_stands {g : Int32} (hok : sOK s) : K_X5_stands [.ref b, .int g] (mz w b M s) (RI (std (vP s) (mX M) g) (mz w b (sc M (nI (nwP (vP s) (mX M) g)) (wvP (vP s) (mX M) g (M 8))) s)) := by
  have h := c_X5_stands (M := ua M 0 s) (b := b) (g := g) (w := w) hok
  rw [z_sc] at h
  exact h
end MZ
def rng (l v m : Int32) : Bool := decide (l ≤ v) && decide (v ≤ m)
def mAdd (s : Nat → Int32) (g : Int32) : Int32 × (Nat → Int32) :=
  if rng 1 g 999 = true then (if s 0 = 4 then (-3, s) else (s 0, upd (upd s (5 + 2 * (s 0).toNatClampNeg) g) 0 (s 0 + 1))) else (-1, s)
def mCome (s : Nat → Int32) (g : Int32) : Int32 × (Nat → Int32) :=
  if rng 0 g 999 = true then (if s 1 = 8 then (-3, s) else (s 1, upd (upd s (13 + 2 * (s 1).toNatClampNeg) g) 1 (s 1 + 1))) else (-1, s)
theorem RI_p {q : Int32 × (Nat → Int32)} {r : Int32} {s1 : Nat → Int32} {w : Wd} {b : Nat} {M : Pl} (h : q = (r, s1)) : RI q.1 (mz w b M q.2) (some (.int r)) (mz w b M s1) := by rw [h]; exact ⟨rfl, rfl⟩
theorem c_X5_adds {M : Pl} {b np : Nat} {s : Nat → Int32} {g : Int32} {w : Wd} (hn : s 0 = nI np) (h4 : np ≤ 4) : K_X5_adds [.ref b, .int g] (mz w b M s) (RI (mAdd s g).1 (mz w b M (mAdd s g).2)) := by
  refine Con.mk [some (.ref b), some (.int g)] (by decide) rfl rfl (Nat.le_of_ble_eq_true rfl) (fun X h hR hnm => ?_)
  refine V.iload1 h 1 dX5_adds_0 rfl (V.iconst h 2 dX5_adds_1 rfl ic1_1 (V.sipush h 5 dX5_adds_2 rfl ic3_999 (V.callSf (As := [.int _, .int _, .int _]) (st := []) h 8 dX5_adds_5 rfl k604 k602 k603 k6 hd_X5_in ⟨(Nat.le_of_ble_eq_true rfl), (Nat.le_of_ble_eq_true rfl)⟩ (Nat.le_of_ble_eq_true rfl) ⟨Nat.zero_le _, Nat.zero_le _⟩ c_X5_in rfl ?_)))
  refine V.bif_ne h 13 11 dX5_adds_8 rfl rfl (fun c8 => ?_) (fun c8 => ?_)
  · refine V.aload0 h 14 dX5_adds_13 rfl (V.gX5 h 0 17 dX5_adds_14 rfl rfl k544 mo rfl (V.iconst h 18 dX5_adds_17 rfl ic1_0 (V.ialdN (i := 0) h 19 dX5_adds_18 rfl za1 (by omega) (by decide) (V.iconst h 20 dX5_adds_19 rfl ic1_4 ?_))))
    refine V.icmp_ne h 26 23 dX5_adds_20 rfl rfl (fun c20 => ?_) (fun c20 => ?_)
    · refine V.aload0 h 27 dX5_adds_26 rfl (V.gX5 h 0 30 dX5_adds_27 rfl rfl k544 mo rfl (V.iconst h 31 dX5_adds_30 rfl ic1_5 (V.iconst h 32 dX5_adds_31 rfl ic1_2 (V.aload0 h 33 dX5_adds_32 rfl (V.gX5 h 0 36 dX5_adds_33 rfl rfl k544 mo rfl (V.iconst h 37 dX5_adds_36 rfl ic1_0 (V.ialdN (i := 0) h 38 dX5_adds_37 rfl za1 (by omega) (by decide) ?_)))))))
      refine V.imul h 39 dX5_adds_38 rfl (V.iadd h 40 dX5_adds_39 rfl ?_)
      rw [hn, show (5 : Int32) + 2 * nI np = nI (5 + 2 * np) by rw [lit, lit, pk_mul, nI_add]]
      have hnp : np < 4 := by
        rcases Nat.lt_or_ge np 4 with q | q
        · exact q
        · exact absurd (by rw [hn, show np = 4 by omega]; rfl) c20
      refine V.iload1 h 41 dX5_adds_40 rfl (V.iastN h 42 dX5_adds_41 rfl za1 (by omega) (by decide) (V.at _ zw1 (V.aload0 h 43 dX5_adds_42 rfl (V.gX5 h 0 46 dX5_adds_43 rfl rfl k544 mo rfl (V.iconst h 47 dX5_adds_46 rfl ic1_0 (V.dup2 h 48 dX5_adds_47 rfl rfl rfl (V.ialdN (i := 0) h 49 dX5_adds_48 rfl za1 (by omega) (by decide) ?_)))))))
      refine V.iconst h 50 dX5_adds_49 rfl ic1_1 (V.iadd h 51 dX5_adds_50 rfl (V.iastN (i := 0) h 52 dX5_adds_51 rfl za1 (by omega) (by decide) (V.at _ zw1 (V.aload0 h 53 dX5_adds_52 rfl (V.gX5 h 0 56 dX5_adds_53 rfl rfl k544 mo rfl (V.iconst h 57 dX5_adds_56 rfl ic1_0 (V.ialdN (i := 0) h 58 dX5_adds_57 rfl za1 (by omega) (by decide) ?_)))))))
      refine V.iconst h 59 dX5_adds_58 rfl ic1_1 (V.isub h 60 dX5_adds_59 rfl ?_)
      refine V.iret h hR dX5_adds_60 ?_
      have e0 : upd s (5 + 2 * np) g 0 = s 0 := by unfold upd; rw [if_neg (by omega)]
      have e1 : (mAdd s g) = (s 0, upd (upd s (5 + 2 * np) g) 0 (s 0 + 1)) := by unfold mAdd rng; rw [c8, if_pos rfl, if_neg c20, hn, nI_tn (by omega)]
      rw [e0, e1]
      refine ⟨?_, rfl⟩
      have e2 : upd (upd s (5 + 2 * np) g) 0 (s 0 + 1) 0 = s 0 + 1 := by unfold upd; rw [if_pos rfl]
      rw [e2, Int32.add_sub_cancel]
    · refine V.bipush h 25 dX5_adds_23 rfl ic2_m3 ?_
      refine V.iret h hR dX5_adds_25 ?_
      exact RI_p (by unfold mAdd rng; rw [c8, if_pos rfl, if_pos c20])
  · refine V.iconst h 12 dX5_adds_11 rfl ic1_m1 ?_
    refine V.iret h hR dX5_adds_12 ?_
    exact RI_p (by unfold mAdd rng; rw [c8]; rfl)
theorem c_X5_comes {M : Pl} {b nq : Nat} {s : Nat → Int32} {g : Int32} {w : Wd} (hn : s 1 = nI nq) (h8 : nq ≤ 8) : K_X5_comes [.ref b, .int g] (mz w b M s) (RI (mCome s g).1 (mz w b M (mCome s g).2)) := by
  refine Con.mk [some (.ref b), some (.int g)] (by decide) rfl rfl (Nat.le_of_ble_eq_true rfl) (fun X h hR hnm => ?_)
  refine V.iload1 h 1 dX5_comes_0 rfl (V.iconst h 2 dX5_comes_1 rfl ic1_0 (V.sipush h 5 dX5_comes_2 rfl ic3_999 (V.callSf (As := [.int _, .int _, .int _]) (st := []) h 8 dX5_comes_5 rfl k604 k602 k603 k6 hd_X5_in ⟨(Nat.le_of_ble_eq_true rfl), (Nat.le_of_ble_eq_true rfl)⟩ (Nat.le_of_ble_eq_true rfl) ⟨Nat.zero_le _, Nat.zero_le _⟩ c_X5_in rfl ?_)))
  refine V.bif_ne h 13 11 dX5_comes_8 rfl rfl (fun c8 => ?_) (fun c8 => ?_)
  · refine V.aload0 h 14 dX5_comes_13 rfl (V.gX5 h 0 17 dX5_comes_14 rfl rfl k544 mo rfl (V.iconst h 18 dX5_comes_17 rfl ic1_1 (V.ialdN (i := 1) h 19 dX5_comes_18 rfl za1 (by omega) (by decide) (V.bipush h 21 dX5_comes_19 rfl ic2_8 ?_))))
    refine V.icmp_ne h 27 24 dX5_comes_21 rfl rfl (fun c21 => ?_) (fun c21 => ?_)
    · refine V.aload0 h 28 dX5_comes_27 rfl (V.gX5 h 0 31 dX5_comes_28 rfl rfl k544 mo rfl (V.bipush h 33 dX5_comes_31 rfl ic2_13 (V.iconst h 34 dX5_comes_33 rfl ic1_2 (V.aload0 h 35 dX5_comes_34 rfl (V.gX5 h 0 38 dX5_comes_35 rfl rfl k544 mo rfl (V.iconst h 39 dX5_comes_38 rfl ic1_1 (V.ialdN (i := 1) h 40 dX5_comes_39 rfl za1 (by omega) (by decide) ?_)))))))
      refine V.imul h 41 dX5_comes_40 rfl (V.iadd h 42 dX5_comes_41 rfl ?_)
      rw [hn, show (13 : Int32) + 2 * nI nq = nI (13 + 2 * nq) by rw [lit, lit, pk_mul, nI_add]]
      have hnp : nq < 8 := by
        rcases Nat.lt_or_ge nq 8 with q | q
        · exact q
        · exact absurd (by rw [hn, show nq = 8 by omega]; rfl) c21
      refine V.iload1 h 43 dX5_comes_42 rfl (V.iastN h 44 dX5_comes_43 rfl za1 (by omega) (by decide) (V.at _ zw1 (V.aload0 h 45 dX5_comes_44 rfl (V.gX5 h 0 48 dX5_comes_45 rfl rfl k544 mo rfl (V.iconst h 49 dX5_comes_48 rfl ic1_1 (V.dup2 h 50 dX5_comes_49 rfl rfl rfl (V.ialdN (i := 1) h 51 dX5_comes_50 rfl za1 (by omega) (by decide) ?_)))))))
      refine V.iconst h 52 dX5_comes_51 rfl ic1_1 (V.iadd h 53 dX5_comes_52 rfl (V.iastN (i := 1) h 54 dX5_comes_53 rfl za1 (by omega) (by decide) (V.at _ zw1 (V.aload0 h 55 dX5_comes_54 rfl (V.gX5 h 0 58 dX5_comes_55 rfl rfl k544 mo rfl (V.iconst h 59 dX5_comes_58 rfl ic1_1 (V.ialdN (i := 1) h 60 dX5_comes_59 rfl za1 (by omega) (by decide) ?_)))))))
      refine V.iconst h 61 dX5_comes_60 rfl ic1_1 (V.isub h 62 dX5_comes_61 rfl ?_)
      refine V.iret h hR dX5_comes_62 ?_
      have e0 : upd s (13 + 2 * nq) g 1 = s 1 := by unfold upd; rw [if_neg (by omega)]
      have e1 : (mCome s g) = (s 1, upd (upd s (13 + 2 * nq) g) 1 (s 1 + 1)) := by unfold mCome rng; rw [c8, if_pos rfl, if_neg c21, hn, nI_tn (by omega)]
      rw [e0, e1]
      refine ⟨?_, rfl⟩
      have e2 : upd (upd s (13 + 2 * nq) g) 1 (s 1 + 1) 1 = s 1 + 1 := by unfold upd; rw [if_pos rfl]
      rw [e2, Int32.add_sub_cancel]
    · refine V.bipush h 26 dX5_comes_24 rfl ic2_m3 ?_
      refine V.iret h hR dX5_comes_26 ?_
      exact RI_p (by unfold mCome rng; rw [c8, if_pos rfl, if_pos c21])
  · refine V.iconst h 12 dX5_comes_11 rfl ic1_m1 ?_
    refine V.iret h hR dX5_comes_12 ?_
    exact RI_p (by unfold mCome rng; rw [c8]; rfl)
/-- a condition that can be made -/
def cOK (np nq i j k v : Int32) : Bool :=
  if k = 0 then decide (v = 0) else if k = 1 then rng 1 v 999 else if k = 2 then rng 1 v 11 else if k = 3 then (rng 0 v (nq - 1) && !decide (v = i)) else if k = 4 then (rng 0 v (np - 1) && !decide (v = j)) else false
theorem c_X5_isCondition {M : Pl} {b : Nat} {s : Nat → Int32} {i j k v : Int32} {w : Wd} : K_X5_isCondition [.ref b, .int i, .int j, .int k, .int v] (mz w b M s) (RI (bI (cOK (s 0) (s 1) i j k v)) (mz w b M s)) := by
  refine Con.mk [some (.ref b), some (.int i), some (.int j), some (.int k), some (.int v)] (by decide) rfl rfl (Nat.le_of_ble_eq_true rfl) (fun X h hR hnm => ?_)
  refine V.iload3 h 1 dX5_isCondition_0 rfl ?_
  refine V.tcase (off := 35) h (0 : Int32) 36 dX5_isCondition_1 (by decide) (by decide +kernel) rfl (fun c1_0 => ?_) (fun c1_0 => ?_)
  · refine V.iload4 h 38 dX5_isCondition_36 rfl ?_
    refine V.if_ne h 45 41 dX5_isCondition_38 rfl rfl (fun c38 => ?_) (fun c38 => ?_)
    · refine V.iconst h 46 dX5_isCondition_45 rfl ic1_0 ?_
      refine V.zret h hR (by first | exact bI_z _ | rfl) dX5_isCondition_46 ?_
      first | exact RI_t (by subst c1_0; unfold cOK; rw [if_pos rfl]; exact decide_eq_true c38) | exact RI_f (by subst c1_0; unfold cOK; rw [if_pos rfl]; exact decide_eq_false c38)
    · refine V.iconst h 42 dX5_isCondition_41 rfl ic1_1 (V.goto h 46 dX5_isCondition_42 rfl ?_)
      refine V.zret h hR (by first | exact bI_z _ | rfl) dX5_isCondition_46 ?_
      first | exact RI_t (by subst c1_0; unfold cOK; rw [if_pos rfl]; exact decide_eq_true c38) | exact RI_f (by subst c1_0; unfold cOK; rw [if_pos rfl]; exact decide_eq_false c38)
  refine V.tcase (off := 46) h (1 : Int32) 47 dX5_isCondition_1 (by decide) (by decide +kernel) rfl (fun c1_1 => ?_) (fun c1_1 => ?_)
  · refine V.iload4 h 49 dX5_isCondition_47 rfl (V.iconst h 50 dX5_isCondition_49 rfl ic1_1 (V.sipush h 53 dX5_isCondition_50 rfl ic3_999 (V.callSf (As := [.int _, .int _, .int _]) (st := []) h 56 dX5_isCondition_53 rfl k604 k602 k603 k6 hd_X5_in ⟨(Nat.le_of_ble_eq_true rfl), (Nat.le_of_ble_eq_true rfl)⟩ (Nat.le_of_ble_eq_true rfl) ⟨Nat.zero_le _, Nat.zero_le _⟩ c_X5_in rfl ?_)))
    refine V.zret h hR (by first | exact bI_z _ | rfl) dX5_isCondition_56 ?_
    exact RI_r (by subst c1_1; rfl)
  refine V.tcase (off := 56) h (2 : Int32) 57 dX5_isCondition_1 (by decide) (by decide +kernel) rfl (fun c1_2 => ?_) (fun c1_2 => ?_)
  · refine V.iload4 h 59 dX5_isCondition_57 rfl (V.iconst h 60 dX5_isCondition_59 rfl ic1_1 (V.bipush h 62 dX5_isCondition_60 rfl ic2_11 (V.callSf (As := [.int _, .int _, .int _]) (st := []) h 65 dX5_isCondition_62 rfl k604 k602 k603 k6 hd_X5_in ⟨(Nat.le_of_ble_eq_true rfl), (Nat.le_of_ble_eq_true rfl)⟩ (Nat.le_of_ble_eq_true rfl) ⟨Nat.zero_le _, Nat.zero_le _⟩ c_X5_in rfl ?_)))
    refine V.zret h hR (by first | exact bI_z _ | rfl) dX5_isCondition_65 ?_
    exact RI_r (by subst c1_2; rfl)
  refine V.tcase (off := 65) h (3 : Int32) 66 dX5_isCondition_1 (by decide) (by decide +kernel) rfl (fun c1_3 => ?_) (fun c1_3 => ?_)
  · refine V.aload0 h 67 dX5_isCondition_66 rfl (V.iload4 h 69 dX5_isCondition_67 rfl (V.callVf (As := [.int _]) (st := []) h 72 dX5_isCondition_69 rfl k628 k625 k627 ks58 k6 hd_X5_isPerson ⟨(Nat.le_of_ble_eq_true rfl), (Nat.le_of_ble_eq_true rfl)⟩ (Nat.le_of_ble_eq_true rfl) mo rfl rfl ⟨Nat.zero_le _, Nat.zero_le _⟩ c_isPerson rfl ?_))
    refine V.bif_eq h 85 75 dX5_isCondition_72 rfl rfl (fun c72 => ?_) (fun c72 => ?_)
    · refine V.iconst h 86 dX5_isCondition_85 rfl ic1_0 ?_
      refine V.zret h hR (by first | exact bI_z _ | rfl) dX5_isCondition_86 ?_
      first | exact RI_t (by subst c1_3; show (rng 0 v (s 1 - 1) && !decide (v = i)) = true; unfold rng; rw [c72, decide_eq_false c78]; rfl) | exact RI_f (by subst c1_3; show (rng 0 v (s 1 - 1) && !decide (v = i)) = false; unfold rng; rw [c72]; rfl) | exact RI_f (by subst c1_3; show (rng 0 v (s 1 - 1) && !decide (v = i)) = false; rw [decide_eq_true c78, Bool.and_comm]; rfl)
    · refine V.iload4 h 77 dX5_isCondition_75 rfl (V.iload1 h 78 dX5_isCondition_77 rfl ?_)
      refine V.icmp_eq h 85 81 dX5_isCondition_78 rfl rfl (fun c78 => ?_) (fun c78 => ?_)
      · refine V.iconst h 86 dX5_isCondition_85 rfl ic1_0 ?_
        refine V.zret h hR (by first | exact bI_z _ | rfl) dX5_isCondition_86 ?_
        first | exact RI_t (by subst c1_3; show (rng 0 v (s 1 - 1) && !decide (v = i)) = true; unfold rng; rw [c72, decide_eq_false c78]; rfl) | exact RI_f (by subst c1_3; show (rng 0 v (s 1 - 1) && !decide (v = i)) = false; unfold rng; rw [c72]; rfl) | exact RI_f (by subst c1_3; show (rng 0 v (s 1 - 1) && !decide (v = i)) = false; rw [decide_eq_true c78, Bool.and_comm]; rfl)
      · refine V.iconst h 82 dX5_isCondition_81 rfl ic1_1 (V.goto h 86 dX5_isCondition_82 rfl ?_)
        refine V.zret h hR (by first | exact bI_z _ | rfl) dX5_isCondition_86 ?_
        first | exact RI_t (by subst c1_3; show (rng 0 v (s 1 - 1) && !decide (v = i)) = true; unfold rng; rw [c72, decide_eq_false c78]; rfl) | exact RI_f (by subst c1_3; show (rng 0 v (s 1 - 1) && !decide (v = i)) = false; unfold rng; rw [c72]; rfl) | exact RI_f (by subst c1_3; show (rng 0 v (s 1 - 1) && !decide (v = i)) = false; rw [decide_eq_true c78, Bool.and_comm]; rfl)
  refine V.tcase (off := 86) h (4 : Int32) 87 dX5_isCondition_1 (by decide) (by decide +kernel) rfl (fun c1_4 => ?_) (fun c1_4 => ?_)
  · refine V.aload0 h 88 dX5_isCondition_87 rfl (V.iload4 h 90 dX5_isCondition_88 rfl (V.callVf (As := [.int _]) (st := []) h 93 dX5_isCondition_90 rfl k632 k629 k631 ks59 k6 hd_X5_isProject ⟨(Nat.le_of_ble_eq_true rfl), (Nat.le_of_ble_eq_true rfl)⟩ (Nat.le_of_ble_eq_true rfl) mo rfl rfl ⟨Nat.zero_le _, Nat.zero_le _⟩ c_isProject rfl ?_))
    refine V.bif_eq h 106 96 dX5_isCondition_93 rfl rfl (fun c93 => ?_) (fun c93 => ?_)
    · refine V.iconst h 107 dX5_isCondition_106 rfl ic1_0 ?_
      refine V.zret h hR (by first | exact bI_z _ | rfl) dX5_isCondition_107 ?_
      first | exact RI_t (by subst c1_4; show (rng 0 v (s 0 - 1) && !decide (v = j)) = true; unfold rng; rw [c93, decide_eq_false c99]; rfl) | exact RI_f (by subst c1_4; show (rng 0 v (s 0 - 1) && !decide (v = j)) = false; unfold rng; rw [c93]; rfl) | exact RI_f (by subst c1_4; show (rng 0 v (s 0 - 1) && !decide (v = j)) = false; rw [decide_eq_true c99, Bool.and_comm]; rfl)
    · refine V.iload4 h 98 dX5_isCondition_96 rfl (V.iload2 h 99 dX5_isCondition_98 rfl ?_)
      refine V.icmp_eq h 106 102 dX5_isCondition_99 rfl rfl (fun c99 => ?_) (fun c99 => ?_)
      · refine V.iconst h 107 dX5_isCondition_106 rfl ic1_0 ?_
        refine V.zret h hR (by first | exact bI_z _ | rfl) dX5_isCondition_107 ?_
        first | exact RI_t (by subst c1_4; show (rng 0 v (s 0 - 1) && !decide (v = j)) = true; unfold rng; rw [c93, decide_eq_false c99]; rfl) | exact RI_f (by subst c1_4; show (rng 0 v (s 0 - 1) && !decide (v = j)) = false; unfold rng; rw [c93]; rfl) | exact RI_f (by subst c1_4; show (rng 0 v (s 0 - 1) && !decide (v = j)) = false; rw [decide_eq_true c99, Bool.and_comm]; rfl)
      · refine V.iconst h 103 dX5_isCondition_102 rfl ic1_1 (V.goto h 107 dX5_isCondition_103 rfl ?_)
        refine V.zret h hR (by first | exact bI_z _ | rfl) dX5_isCondition_107 ?_
        first | exact RI_t (by subst c1_4; show (rng 0 v (s 0 - 1) && !decide (v = j)) = true; unfold rng; rw [c93, decide_eq_false c99]; rfl) | exact RI_f (by subst c1_4; show (rng 0 v (s 0 - 1) && !decide (v = j)) = false; unfold rng; rw [c93]; rfl) | exact RI_f (by subst c1_4; show (rng 0 v (s 0 - 1) && !decide (v = j)) = false; rw [decide_eq_true c99, Bool.and_comm]; rfl)
  refine V.tdflt h 108 dX5_isCondition_1 (by have e0 := lv_neT (a := 0) c1_0 (by decide); have e1 := lv_neT (a := 1) c1_1 (by decide); have e2 := lv_neT (a := 2) c1_2 (by decide); have e3 := lv_neT (a := 3) c1_3 (by decide); have e4 := lv_neT (a := 4) c1_4 (by decide); omega) rfl ?_
  refine V.iconst h 109 dX5_isCondition_108 rfl ic1_0 ?_
  refine V.zret h hR (by first | exact bI_z _ | rfl) dX5_isCondition_109 ?_
  exact RI_f (by unfold cOK; rw [if_neg c1_0, if_neg c1_1, if_neg c1_2, if_neg c1_3, if_neg c1_4])
/-- the lowest place from i on where f holds, or -1 -/
def lf (f : Nat → Bool) : Nat → Nat → Int32
  | _, 0 => -1
  | i, n + 1 => if f i = true then nI i else lf f (i + 1) n
theorem dec1 (x : Int32) : x + Int32.ofInt (-1) = x - 1 := by
  rw [Int32.sub_eq_add_neg]
  have : Int32.ofInt (-1) = -(1 : Int32) := by decide
  rw [this]
theorem c_X5_lowestFree {M : Pl} {b : Nat} {s : Nat → Int32} {w : Wd} : K_X5_lowestFree [.ref b] (mz w b M s) (RI (lf (fun k => decide (sF s k 0 = 0)) 0 12) (mz w b M s)) := by
  refine Con.mk [some (.ref b), none, none] (by decide) rfl rfl (Nat.le_of_ble_eq_true rfl) (fun X h hR hnm => ?_)
  have L : ∀ (i n : Nat) (x r : Int32), i + n = 12 → x = nI i - 1 → r = lf (fun k => decide (sF s k 0 = 0)) i n → V X 0 0 5 [some (.ref b), some (.int r), some (.int x)] [] (mz w b M s) := by
    intro i
    induction i with
    | zero =>
      intro n x r hn hx hr
      obtain rfl : n = 12 := by omega
      subst hx
      refine V.iload2 h 6 dX5_lowestFree_5 rfl ?_
      refine V.if_lt h 30 9 dX5_lowestFree_6 rfl rfl (fun _ => ?_) (fun q => absurd (show nI 0 - 1 < 0 by decide) q)
      refine V.iload1 h 31 dX5_lowestFree_30 rfl ?_
      refine V.iret h hR dX5_lowestFree_31 ?_
      exact RI_r hr
    | succ i ih =>
      intro n x r hn hx hr
      rw [nI_pred] at hx
      subst hx
      refine V.iload2 h 6 dX5_lowestFree_5 rfl ?_
      refine V.if_lt h 30 9 dX5_lowestFree_6 rfl rfl (fun q => absurd q (nI_pos (by omega))) (fun _ => ?_)
      refine V.aload0 h 10 dX5_lowestFree_9 rfl (V.iload2 h 11 dX5_lowestFree_10 rfl (V.iconst h 12 dX5_lowestFree_11 rfl ic1_0 (V.callVf (As := [.int _, .int _]) (st := []) h 15 dX5_lowestFree_12 rfl k648 k645 k647 ks63 k6 hd_X5_of ⟨(Nat.le_of_ble_eq_true rfl), (Nat.le_of_ble_eq_true rfl)⟩ (Nat.le_of_ble_eq_true rfl) mo rfl rfl ⟨Nat.zero_le _, Nat.zero_le _⟩ (c_of 0 rfl (by omega) (by decide)) rfl ?_)))
      refine V.if_ne h 22 18 dX5_lowestFree_15 rfl rfl (fun c15 => ?_) (fun c15 => ?_)
      · refine V.iload1 h 23 dX5_lowestFree_22 rfl (V.istore1 h 24 dX5_lowestFree_23 rfl rfl (V.iinc2 h 27 dX5_lowestFree_24 rfl rfl rfl (V.goto h 5 dX5_lowestFree_27 rfl ?_)))
        refine ih (n + 1) _ _ (by omega) (dec1 _) ?_
        rw [lf]; first | (rw [if_pos (by simpa using c15)]) | (rw [if_neg (by simpa using c15)]; exact hr)
      · refine V.iload2 h 19 dX5_lowestFree_18 rfl (V.goto h 23 dX5_lowestFree_19 rfl (V.istore1 h 24 dX5_lowestFree_23 rfl rfl (V.iinc2 h 27 dX5_lowestFree_24 rfl rfl rfl (V.goto h 5 dX5_lowestFree_27 rfl ?_))))
        refine ih (n + 1) _ _ (by omega) (dec1 _) ?_
        rw [lf]; first | (rw [if_pos (by simpa using c15)]) | (rw [if_neg (by simpa using c15)]; exact hr)
  refine V.iconst h 1 dX5_lowestFree_0 rfl ic1_m1 (V.istore1 h 2 dX5_lowestFree_1 rfl rfl (V.bipush h 4 dX5_lowestFree_2 rfl ic2_11 (V.istore2 h 5 dX5_lowestFree_4 rfl rfl ?_)))
  exact L 12 0 _ _ rfl (by decide) rfl
def fgt (s : Nat → Int32) (k : Nat) : Nat → Int32 := fun q => if 29 + 8 * k ≤ q ∧ q < 29 + 8 * k + 8 then 0 else s q
theorem c_X5_forgets {M : Pl} {b k : Nat} {s : Nat → Int32} {w : Wd} (hk : k < 12) : K_X5_forgets [.ref b, .int (nI k)] (mz w b M s) (RV (mz w b M (fgt s k))) := by
  refine Con.mk [some (.ref b), some (.int (nI k)), none] (by decide) rfl rfl (Nat.le_of_ble_eq_true rfl) (fun X h hR hnm => ?_)
  have L : ∀ (n i : Nat) (s1 : Nat → Int32), i + n = 8 → s1 = (fun q => if 29 + 8 * k ≤ q ∧ q < 29 + 8 * k + i then 0 else s q) → V X 0 0 2 [some (.ref b), some (.int (nI k)), some (.int (nI i))] [] (mz w b M s1) := by
    intro n
    induction n with
    | zero =>
      intro i s1 hi hs
      obtain rfl : i = 8 := by omega
      refine V.iload2 h 3 dX5_forgets_2 rfl (V.bipush h 5 dX5_forgets_3 rfl ic2_8 ?_)
      refine V.icmp_ge h 29 8 dX5_forgets_5 rfl rfl (fun _ => ?_) (fun q => absurd (lp_out (n := 8)) q)
      refine V.vret h hR dX5_forgets_29 ?_
      exact ⟨rfl, by rw [hs]; rfl⟩
    | succ n ih =>
      intro i s1 hi hs
      refine V.iload2 h 3 dX5_forgets_2 rfl (V.bipush h 5 dX5_forgets_3 rfl ic2_8 ?_)
      refine V.icmp_ge h 29 8 dX5_forgets_5 rfl rfl (fun q => absurd q (lp_in (n := 8) (by omega))) (fun _ => ?_)
      refine V.aload0 h 9 dX5_forgets_8 rfl (V.gX5 h 0 12 dX5_forgets_9 rfl rfl k544 mo rfl (V.bipush h 14 dX5_forgets_12 rfl ic2_29 (V.bipush h 16 dX5_forgets_14 rfl ic2_8 (V.iload1 h 17 dX5_forgets_16 rfl (V.imul h 18 dX5_forgets_17 rfl (V.iadd h 19 dX5_forgets_18 rfl (V.iload2 h 20 dX5_forgets_19 rfl ?_)))))))
      refine V.iadd h 21 dX5_forgets_20 rfl ?_
      rw [show (29 : Int32) + 8 * nI k + nI i = nI (29 + 8 * k + i) by rw [lit, lit, pk_mul, nI_add, nI_add]]
      refine V.iconst h 22 dX5_forgets_21 rfl ic1_0 (V.iastN h 23 dX5_forgets_22 rfl za1 (by omega) (by decide) (V.at _ zw1 (V.incN2 h 26 dX5_forgets_23 rfl rfl (V.goto h 2 dX5_forgets_26 rfl ?_))))
      refine ih (i + 1) _ (by omega) ?_
      rw [hs]
      funext q
      unfold upd
      by_cases hq : q = 29 + 8 * k + i
      · rw [if_pos hq, if_pos (by omega)]
      · rw [if_neg hq]
        dsimp only
        by_cases h2 : 29 + 8 * k ≤ q ∧ q < 29 + 8 * k + i
        · rw [if_pos h2, if_pos (by omega)]
        · rw [if_neg h2, if_neg (by omega)]
  refine V.iconst h 1 dX5_forgets_0 rfl ic1_0 (V.istore2 h 2 dX5_forgets_1 rfl rfl ?_)
  refine L 8 0 _ rfl ?_
  funext q; rw [if_neg (by omega)]
/-- a pledge that there is -/
def isPl (s : Nat → Int32) (v : Int32) : Bool := rng 0 v 11 && sThere s v.toNatClampNeg
theorem rng_nat {n : Nat} {v : Int32} (hn : n < 2 ^ 31) (h : rng 0 v (nI n) = true) : ∃ k, k ≤ n ∧ v = nI k := by
  unfold rng at h
  rw [Bool.and_eq_true] at h
  have h0 := of_decide_eq_true h.1
  have h1 := of_decide_eq_true h.2
  obtain ⟨k, hk, rfl⟩ := nI_of (le_n h0)
  exact ⟨k, (nI_leI hk hn).mp h1, rfl⟩
theorem rng_of {n k : Nat} (hn : n < 2 ^ 31) (h : k ≤ n) : rng 0 (nI k) (nI n) = true := by
  unfold rng
  rw [decide_eq_true (nI_pos' (by omega)), decide_eq_true (nI_le h hn)]; rfl
theorem c_X5_isPledge {M : Pl} {b : Nat} {s : Nat → Int32} {v : Int32} {w : Wd} : K_X5_isPledge [.ref b, .int v] (mz w b M s) (RI (bI (isPl s v)) (mz w b M s)) := by
  by_cases hr : rng 0 v 11 = true
  · obtain ⟨k, hk, rfl⟩ := rng_nat (n := 11) (by decide) hr
    have e : isPl s (nI k) = sThere s k := by unfold isPl; rw [hr, nI_tn (by omega)]; rfl
    rw [e]
    exact c_X5_isPledge_in (M := ua M 0 s) (by omega)
  · have hf : rng 0 v 11 = false := by cases h : rng 0 v 11 <;> simp_all
    have e : isPl s v = false := by unfold isPl; rw [hf]; rfl
    rw [e]
    refine Con.mk [some (.ref b), some (.int v)] (by decide) rfl rfl (Nat.le_of_ble_eq_true rfl) (fun X h hR hnm => ?_)
    refine V.iload1 h 1 dX5_isPledge_0 rfl (V.iconst h 2 dX5_isPledge_1 rfl ic1_0 (V.bipush h 4 dX5_isPledge_2 rfl ic2_11 (V.callSf (As := [.int _, .int _, .int _]) (st := []) h 7 dX5_isPledge_4 rfl k604 k602 k603 k6 hd_X5_in ⟨(Nat.le_of_ble_eq_true rfl), (Nat.le_of_ble_eq_true rfl)⟩ (Nat.le_of_ble_eq_true rfl) ⟨Nat.zero_le _, Nat.zero_le _⟩ c_X5_in rfl ?_)))
    refine V.bif_eq h 24 10 dX5_isPledge_7 rfl rfl (fun _ => ?_) (fun q => absurd ((Eq.symm hf).trans q) (by decide))
    refine V.iconst h 25 dX5_isPledge_24 rfl ic1_0 ?_
    refine V.zret h hR (by first | exact bI_z _ | rfl) dX5_isPledge_25 ?_
    exact RI_f rfl
theorem isPl_k {s : Nat → Int32} {v : Int32} (h : isPl s v = true) : ∃ k, k < 12 ∧ v = nI k ∧ sThere s k = true := by
  unfold isPl at h
  rw [Bool.and_eq_true] at h
  obtain ⟨k, hk, rfl⟩ := rng_nat (n := 11) (by decide) h.1
  rw [nI_tn (by omega)] at h
  exact ⟨k, by omega, rfl, h.2⟩
def mWdr (s : Nat → Int32) (x : Ex) (v : Int32) : Int32 × (Nat → Int32) :=
  if isPl s v = true then (if sCalled s v.toNatClampNeg = true then (-2, s) else (std (vP s) x 0 &&& (std (vP (fgt s v.toNatClampNeg)) x 0 ^^^ (-1)), upd (fgt s v.toNatClampNeg) 3 (s 3 + 1))) else (-1, s)
theorem vP_congr {s s' : Nat → Int32} (h : ∀ q, q ≠ 3 → s q = s' q) : ∀ f, f ≠ 15 → vP s f = vP s' f := by
  have hF : ∀ k f, sF s k f = sF s' k f := fun k f => h _ (by omega)
  have ht : ∀ k, sThere s k = sThere s' k := fun k => by unfold sThere; rw [hF]
  have hc : ∀ k, sCalled s k = sCalled s' k := fun k => by unfold sCalled; rw [hF]
  intro f hf
  funext k
  match f, hf with
  | 0, _ => exact h _ (by omega)
  | 1, _ => exact h _ (by omega)
  | 2, _ => exact mk_congr (f := fun j => decide (s (5 + 2 * j + 1) = 1)) (g := fun j => decide (s' (5 + 2 * j + 1) = 1)) fun j _ => by rw [h _ (by omega)]
  | 3, _ => exact h _ (by omega)
  | 4, _ => exact h _ (by omega)
  | 5, _ => exact h _ (by omega)
  | 6, _ => exact mk_congr (f := fun j => sThere s j && !sCalled s j) (g := fun j => sThere s' j && !sCalled s' j) fun j _ => by rw [ht, hc]
  | 7, _ => exact mk_congr (f := fun j => sThere s j && sCalled s j) (g := fun j => sThere s' j && sCalled s' j) fun j _ => by rw [ht, hc]
  | 8, _ => exact hF _ _
  | 9, _ => exact hF _ _
  | 10, _ => exact hF _ _
  | 11, _ => exact hF _ _
  | 12, _ => exact hF _ _
  | 13, _ => exact hF _ _
  | 14, _ => exact h _ (by omega)
  | 16, _ => exact h _ (by omega)
  | n + 17, _ => rfl
