/-! the class: orders -/
abbrev lngs (n : Nat) (f : Nat → Int64) : Ce := .inl (1, n, .inr (.inl f))
def kw (w : Wd) (c : Nat) (K : Nat → Int64) : Wd := wset w (c + 83) (lngs 12 K)
abbrev kt (w : Wd) (c : Nat) (P : Pl) (f g : Nat → Int32) (v : Int32) (K : Nat → Int64) : Wd := ct (kw w c K) (c + 1) (c + 11) P f g v
theorem kto {w : Wd} {c : Nat} {P : Pl} {f g : Nat → Int32} {v : Int32} {K : Nat → Int64} : (kt w c P f g v K).2 (c + 83) = some (lngs 12 K) := by
  show (rs (rs _ (c + 1) 10 _) (c + 11) 3 _).2 _ = _
  rw [rs_out (by omega), rs_out (by omega)]
  exact wset_self _ _ _
theorem ktw {w : Wd} {c : Nat} {P : Pl} {f g : Nat → Int32} {v : Int32} {K K' : Nat → Int64} : wset (kt w c P f g v K) (c + 83) (lngs 12 K') = kt w c P f g v K' := by
  show wset (rs (rs _ (c + 1) 10 _) (c + 11) 3 _) (c + 83) _ = rs (rs _ (c + 1) 10 _) (c + 11) 3 _
  rw [wset_rs_out (by omega), wset_rs_out (by omega)]
  congr 2
  refine wd_ext rfl fun q => ?_
  unfold kw
  by_cases h : q = c + 83
  · subst h; rw [wset_self, wset_self]
  · rw [wset_ne h, wset_ne h, wset_ne h]
theorem OB.kw {w : Wd} {c : Nat} {x : Int32} {K : Nat → Int64} (h : OB w c x) : OB (_root_.Jvm.Pilot.CPledgeTipsLaw_law_r3089_549eb5.kw w c K) c x := by
  unfold OB
  show (wset w (c + 83) _).2 c = _
  rw [wset_ne (by omega)]
  exact h
def kyO (P : Pl) (ord : Int32) (k : Nat) : Int64 :=
  if ord = 0 then ((999 - P 10 k).toInt64 <<< ((20 : Int32).toInt64 &&& 63)) ||| (P 13 k).toInt64
  else if ord = 1 then (if wvm P noX (P 6 0) (P 7 0) (fun _ => 0) 12 k = 0 then (0 : Int32) else 13 - wvm P noX (P 6 0) (P 7 0) (fun _ => 0) 12 k).toInt64 * 12 + (nI k).toInt64
  else ((P 9 k * 8 + P 8 k).toInt64 <<< ((20 : Int32).toInt64 &&& 63)) ||| (P 13 k).toInt64
def LW (r : Int64) (w : Wd) (c : Nat) (P : Pl) : Option Value → Wd → Prop := RLE r (fun u => ∃ f g v, u = ct w (c + 1) (c + 11) P f g v)
theorem LW_of {r s : Int64} {w : Wd} {c : Nat} {P : Pl} {f g : Nat → Int32} {v : Int32} (h : s = r) : LW r w c P (some (.long s)) (ct w (c + 1) (c + 11) P f g v) := by rw [h]; exact ⟨rfl, f, g, v, rfl⟩
theorem c_X4_keyOf {w : Wd} {c k : Nat} {P : Pl} {f g : Nat → Int32} {v x ord : Int32} (hob : OB w c x) (hO : POK P) (hk : k < 12) : K_X4_keyOf [.ref c, .int ord, .int (nI k)] (ct w (c + 1) (c + 11) P f g v) (LW (kyO P ord k) w c P) := by
  refine Con.mk [some (.ref c), some (.int ord), some (.int (nI k)), none, none] (by decide) rfl rfl (Nat.le_of_ble_eq_true rfl) (fun X h hR hnm => ?_)
  refine V.iload1 h 1 dX4_keyOf_0 rfl ?_
  refine V.if_ne h 33 4 dX4_keyOf_1 rfl rfl (fun c1 => ?_) (fun c1 => ?_)
  · refine V.iload1 h 34 dX4_keyOf_33 rfl (V.iconst h 35 dX4_keyOf_34 rfl ic1_1 ?_)
    refine V.icmp_ne h 72 38 dX4_keyOf_35 rfl rfl (fun c35 => ?_) (fun c35 => ?_)
    · refine V.aload0 h 73 dX4_keyOf_72 rfl (V.gX4 h 0 76 dX4_keyOf_73 rfl rfl k200 (ob hob) rfl (V.gX2N h 9 79 dX4_keyOf_76 rfl rfl k57 (ctP hd4).po rfl (V.iload2 h 80 dX4_keyOf_79 rfl (V.ialdN h 81 dX4_keyOf_80 rfl (ctP hd4).pa5 (by omega) (by decide) (V.bipush h 83 dX4_keyOf_81 rfl ic2_8 (V.imul h 84 dX4_keyOf_83 rfl (V.aload0 h 85 dX4_keyOf_84 rfl ?_)))))))
      refine V.gX4 h 0 88 dX4_keyOf_85 rfl rfl k200 (ob hob) rfl (V.gX2N h 8 91 dX4_keyOf_88 rfl rfl k53 (ctP hd4).po rfl (V.iload2 h 92 dX4_keyOf_91 rfl (V.ialdN h 93 dX4_keyOf_92 rfl (ctP hd4).pa4 (by omega) (by decide) (V.iadd h 94 dX4_keyOf_93 rfl (V.istore3 h 95 dX4_keyOf_94 rfl rfl (V.iload3 h 96 dX4_keyOf_95 rfl (V.i2l h 97 dX4_keyOf_96 rfl ?_)))))))
      refine V.bipush h 99 dX4_keyOf_97 rfl ic2_20 (V.lshl h 100 dX4_keyOf_99 rfl (V.aload0 h 101 dX4_keyOf_100 rfl (V.gX4 h 0 104 dX4_keyOf_101 rfl rfl k200 (ob hob) rfl (V.gX2N h 13 107 dX4_keyOf_104 rfl rfl k72 (ctP hd4).po rfl (V.iload2 h 108 dX4_keyOf_107 rfl (V.ialdN h 109 dX4_keyOf_108 rfl (ctP hd4).pa9 (by omega) (by decide) (V.i2l h 110 dX4_keyOf_109 rfl ?_)))))))
      refine V.lor h 111 dX4_keyOf_110 rfl ?_
      refine V.lret h hR dX4_keyOf_111 ?_
      exact LW_of (by unfold kyO; rw [if_neg (by simpa using c1), if_neg (by simpa using c35)])
    · refine V.aload0 h 39 dX4_keyOf_38 rfl (V.gX4 h 1 42 dX4_keyOf_39 rfl rfl k201 (ob hob) rfl (V.iload2 h 43 dX4_keyOf_42 rfl (V.callNe (As := [.int _]) (st := []) h 46 dX4_keyOf_43 rfl k360 k357 k359 ks26 k3 hd_X1_waveOf ⟨(Nat.le_of_ble_eq_true rfl), (Nat.le_of_ble_eq_true rfl)⟩ (Nat.le_of_ble_eq_true rfl) jto rfl rfl ⟨Nat.zero_le _, Nat.zero_le _⟩ (c_X1_waveOf PlaceAt_ps hd4 hO hk) rfl (fun w43 hw43 => ?_))))
      obtain ⟨f1, g1, v1, rfl⟩ := hw43
      refine V.istore3 h 47 dX4_keyOf_46 rfl rfl (V.iload3 h 48 dX4_keyOf_47 rfl ?_)
      refine V.if_ne h 55 51 dX4_keyOf_48 rfl rfl (fun c48 => ?_) (fun c48 => ?_)
      · refine V.bipush h 57 dX4_keyOf_55 rfl ic2_13 (V.iload3 h 58 dX4_keyOf_57 rfl (V.isub h 59 dX4_keyOf_58 rfl (V.istore4 h 61 dX4_keyOf_59 rfl rfl (V.iload4 h 63 dX4_keyOf_61 rfl (V.i2l h 64 dX4_keyOf_63 rfl (V.ldc2 h 67 dX4_keyOf_64 rfl k450 (V.lmul h 68 dX4_keyOf_67 rfl ?_)))))))
        refine V.iload2 h 69 dX4_keyOf_68 rfl (V.i2l h 70 dX4_keyOf_69 rfl (V.ladd h 71 dX4_keyOf_70 rfl ?_))
        refine V.lret h hR dX4_keyOf_71 ?_
        first | exact LW_of (by unfold kyO; rw [if_neg (by simpa using c1), if_pos (by simpa using c35), if_pos (by simpa using c48)]) | exact LW_of (by unfold kyO; rw [if_neg (by simpa using c1), if_pos (by simpa using c35), if_neg (by simpa using c48)])
      · refine V.iconst h 52 dX4_keyOf_51 rfl ic1_0 (V.goto h 59 dX4_keyOf_52 rfl (V.istore4 h 61 dX4_keyOf_59 rfl rfl (V.iload4 h 63 dX4_keyOf_61 rfl (V.i2l h 64 dX4_keyOf_63 rfl (V.ldc2 h 67 dX4_keyOf_64 rfl k450 (V.lmul h 68 dX4_keyOf_67 rfl (V.iload2 h 69 dX4_keyOf_68 rfl ?_)))))))
        refine V.i2l h 70 dX4_keyOf_69 rfl (V.ladd h 71 dX4_keyOf_70 rfl ?_)
        refine V.lret h hR dX4_keyOf_71 ?_
        first | exact LW_of (by unfold kyO; rw [if_neg (by simpa using c1), if_pos (by simpa using c35), if_pos (by simpa using c48)]) | exact LW_of (by unfold kyO; rw [if_neg (by simpa using c1), if_pos (by simpa using c35), if_neg (by simpa using c48)])
  · refine V.sipush h 7 dX4_keyOf_4 rfl ic3_999 (V.aload0 h 8 dX4_keyOf_7 rfl (V.gX4 h 0 11 dX4_keyOf_8 rfl rfl k200 (ob hob) rfl (V.gX2N h 10 14 dX4_keyOf_11 rfl rfl k61 (ctP hd4).po rfl (V.iload2 h 15 dX4_keyOf_14 rfl (V.ialdN h 16 dX4_keyOf_15 rfl (ctP hd4).pa6 (by omega) (by decide) (V.isub h 17 dX4_keyOf_16 rfl (V.i2l h 18 dX4_keyOf_17 rfl ?_)))))))
    refine V.bipush h 20 dX4_keyOf_18 rfl ic2_20 (V.lshl h 21 dX4_keyOf_20 rfl (V.aload0 h 22 dX4_keyOf_21 rfl (V.gX4 h 0 25 dX4_keyOf_22 rfl rfl k200 (ob hob) rfl (V.gX2N h 13 28 dX4_keyOf_25 rfl rfl k72 (ctP hd4).po rfl (V.iload2 h 29 dX4_keyOf_28 rfl (V.ialdN h 30 dX4_keyOf_29 rfl (ctP hd4).pa9 (by omega) (by decide) (V.i2l h 31 dX4_keyOf_30 rfl ?_)))))))
    refine V.lor h 32 dX4_keyOf_31 rfl ?_
    refine V.lret h hR dX4_keyOf_32 ?_
    exact LW_of (by unfold kyO; rw [if_pos (by simpa using c1)])
def kbl (P : Pl) (K : Nat → Int64) (x : Int64) (k : Nat) : Bool := Bt (live P) k && decide (K k < x)
theorem kbl_n {P : Pl} {K : Nat → Int64} {x : Int64} {n : Nat} {t : Int32} (h : kbl P K x n = false) (ht : t = sm (fun k => if kbl P K x k = true then 1 else 0) n) : t = sm (fun k => if kbl P K x k = true then 1 else 0) (n + 1) := by
  rw [sm_s, h, if_neg Bool.false_ne_true, Int32.add_zero]; exact ht
theorem c_X4_keysBelow {w : Wd} {c : Nat} {P : Pl} {f g : Nat → Int32} {v y : Int32} {K : Nat → Int64} {x : Int64} (hob : OB (kw w c K) c y) : K_X4_keysBelow [.ref c, .long x] (kt w c P f g v K) (RI (sm (fun k => if kbl P K x k = true then 1 else 0) 12) (kt w c P f g v K)) := by
  refine Con.mk [some (.ref c), some (.long x), none, none, none] (by decide) rfl rfl (Nat.le_of_ble_eq_true rfl) (fun X h hR hnm => ?_)
  have L : ∀ (d n : Nat) (t : Int32), n + d = 12 → t = sm (fun k => if kbl P K x k = true then 1 else 0) n → V X 0 0 5 [some (.ref c), some (.long x), none, some (.int t), some (.int (nI n))] [] (kt w c P f g v K) := by
    intro d
    induction d with
    | zero =>
      intro n t hnd ht
      obtain rfl : n = 12 := by omega
      refine V.iload4 h 7 dX4_keysBelow_5 rfl (V.bipush h 9 dX4_keysBelow_7 rfl ic2_12 ?_)
      refine V.icmp_ge h 45 12 dX4_keysBelow_9 rfl rfl (fun _ => ?_) (fun q => absurd (lp_out (n := 12)) q)
      refine V.iload3 h 46 dX4_keysBelow_45 rfl ?_
      refine V.iret h hR dX4_keysBelow_46 ?_
      exact RI_r ht
    | succ d ih =>
      intro n t hnd ht
      refine V.iload4 h 7 dX4_keysBelow_5 rfl (V.bipush h 9 dX4_keysBelow_7 rfl ic2_12 ?_)
      refine V.icmp_ge h 45 12 dX4_keysBelow_9 rfl rfl (fun q => absurd q (lp_in (n := 12) (by omega))) (fun _ => ?_)
      refine V.aload0 h 13 dX4_keysBelow_12 rfl (V.gX4 h 0 16 dX4_keysBelow_13 rfl rfl k200 (ob hob) rfl (V.iload4 h 18 dX4_keysBelow_16 rfl (V.callNf (As := [.int _]) (st := []) h 21 dX4_keysBelow_18 rfl k301 k343 k300 ks15 k2 hd_X2_hasPledge ⟨(Nat.le_of_ble_eq_true rfl), (Nat.le_of_ble_eq_true rfl)⟩ (Nat.le_of_ble_eq_true rfl) (ctP hd4).po rfl rfl ⟨Nat.zero_le _, Nat.zero_le _⟩ (c_X2_hasPledge (ctP hd4)) rfl ?_)))
      rw [hpl_k (show n < 12 by omega)]
      refine V.bif_eq h 39 24 dX4_keysBelow_21 rfl rfl (fun c21 => ?_) (fun c21 => ?_)
      · refine V.incN4 h 42 dX4_keysBelow_39 rfl rfl (V.goto h 5 dX4_keysBelow_42 rfl ?_)
        first
        | exact ih (n + 1) _ (by omega) (kbl_n (by unfold kbl; rw [c21]; rfl) ht)
        | exact ih (n + 1) _ (by omega) (kbl_n (by unfold kbl; rw [decide_eq_false (fun q => absurd c33 (lt_n ((lg_cmp_lt _ _).mpr q))), Bool.and_false]) ht)
        | exact ih (n + 1) _ (by omega) (by rw [sm_s, if_pos (show kbl P K x n = true by unfold kbl; rw [c21, decide_eq_true ((lg_cmp_lt _ _).mp (nle c33))]; rfl), ht, ofI1])
      · refine V.aload0 h 25 dX4_keysBelow_24 rfl (V.gX4 h 6 28 dX4_keysBelow_25 rfl rfl k206 (ob hob) rfl (V.iload4 h 30 dX4_keysBelow_28 rfl (V.laldN h 31 dX4_keysBelow_30 rfl kto (by omega) (by decide) (V.lload1 h 32 dX4_keysBelow_31 rfl (V.lcmp h 33 dX4_keysBelow_32 rfl ?_)))))
        refine V.if_ge h 39 36 dX4_keysBelow_33 rfl rfl (fun c33 => ?_) (fun c33 => ?_)
        · refine V.incN4 h 42 dX4_keysBelow_39 rfl rfl (V.goto h 5 dX4_keysBelow_42 rfl ?_)
          first
          | exact ih (n + 1) _ (by omega) (kbl_n (by unfold kbl; rw [c21]; rfl) ht)
          | exact ih (n + 1) _ (by omega) (kbl_n (by unfold kbl; rw [decide_eq_false (fun q => absurd c33 (lt_n ((lg_cmp_lt _ _).mpr q))), Bool.and_false]) ht)
          | exact ih (n + 1) _ (by omega) (by rw [sm_s, if_pos (show kbl P K x n = true by unfold kbl; rw [c21, decide_eq_true ((lg_cmp_lt _ _).mp (nle c33))]; rfl), ht, ofI1])
        · refine V.iinc3 h 39 dX4_keysBelow_36 rfl rfl rfl (V.incN4 h 42 dX4_keysBelow_39 rfl rfl (V.goto h 5 dX4_keysBelow_42 rfl ?_))
          first
          | exact ih (n + 1) _ (by omega) (kbl_n (by unfold kbl; rw [c21]; rfl) ht)
          | exact ih (n + 1) _ (by omega) (kbl_n (by unfold kbl; rw [decide_eq_false (fun q => absurd c33 (lt_n ((lg_cmp_lt _ _).mpr q))), Bool.and_false]) ht)
          | exact ih (n + 1) _ (by omega) (by rw [sm_s, if_pos (show kbl P K x n = true by unfold kbl; rw [c21, decide_eq_true ((lg_cmp_lt _ _).mp (nle c33))]; rfl), ht, ofI1])
  refine V.iconst h 1 dX4_keysBelow_0 rfl ic1_0 (V.istore3 h 2 dX4_keysBelow_1 rfl rfl (V.iconst h 3 dX4_keysBelow_2 rfl ic1_0 (V.istore4 h 5 dX4_keysBelow_3 rfl rfl ?_)))
  exact L 12 0 0 rfl rfl
def krk (P : Pl) (ord : Int32) (k : Nat) : Int32 := sm (fun o => if (Bt (live P) o && decide (kyO P ord o < kyO P ord k)) = true then 1 else 0) 12
def cOr1 (P : Pl) (ord pl : Int32) : Nat → Bool := fun k => Bt (live P) k && decide (krk P ord k = pl)
def cOr (P : Pl) (ord pl : Int32) : Int32 :=
  if (rng 0 ord 2 && !decide (pl < 0)) = true then (if lf (cOr1 P ord pl) 0 12 = -1 then -4 else lf (cOr1 P ord pl) 0 12) else -1
def KW (w : Wd) (c : Nat) (P : Pl) (u : Wd) : Prop := ∃ f g v K, u = kt w c P f g v K
theorem c_X4_orderAt {w : Wd} {c : Nat} {P : Pl} {f g : Nat → Int32} {v x ord pl : Int32} {K : Nat → Int64} (hob0 : OB w c x) (hO : POK P) : K_X4_orderAt [.ref c, .int ord, .int pl] (kt w c P f g v K) (RE (cOr P ord pl) (KW w c P)) := by
  refine Con.mk [some (.ref c), some (.int ord), some (.int pl), none] (by decide) rfl rfl (Nat.le_of_ble_eq_true rfl) (fun X h hR hnm => ?_)
  have hob : ∀ {K}, OB (kw w c K) c x := hob0.kw
  have L2 : ∀ (f g : Nat → Int32) (v : Int32) (K : Nat → Int64), (∀ k, k < 12 → K k = kyO P ord k) → (rng 0 ord 2 && !decide (pl < 0)) = true → ∀ (d n : Nat), n + d = 12 → cOr P ord pl = (if lf (cOr1 P ord pl) n d = -1 then -4 else lf (cOr1 P ord pl) n d) → V X 0 0 43 [some (.ref c), some (.int ord), some (.int pl), some (.int (nI n))] [] (kt w c P f g v K) := by
    intro f g v K hK hr d
    induction d with
    | zero =>
      intro n hnd hq
      obtain rfl : n = 12 := by omega
      refine V.iload3 h 44 dX4_orderAt_43 rfl (V.bipush h 46 dX4_orderAt_44 rfl ic2_12 ?_)
      refine V.icmp_ge h 82 49 dX4_orderAt_46 rfl rfl (fun _ => ?_) (fun q => absurd (lp_out (n := 12)) q)
      refine V.bipush h 84 dX4_orderAt_82 rfl ic2_m4 ?_
      refine V.iret h hR dX4_orderAt_84 ?_
      exact ⟨congrArg (fun z => some (Value.int z)) hq.symm, f, g, v, K, rfl⟩
    | succ d ih =>
      intro n hnd hq
      rw [lf] at hq
      have ek : sm (fun k => if kbl P K (K n) k = true then 1 else 0) 12 = krk P ord n := by
        unfold krk kbl
        refine sm_congr fun o ho => ?_
        rw [hK o ho, hK n (by omega)]
      refine V.iload3 h 44 dX4_orderAt_43 rfl (V.bipush h 46 dX4_orderAt_44 rfl ic2_12 ?_)
      refine V.icmp_ge h 82 49 dX4_orderAt_46 rfl rfl (fun q => absurd q (lp_in (n := 12) (by omega))) (fun _ => ?_)
      refine V.aload0 h 50 dX4_orderAt_49 rfl (V.gX4 h 0 53 dX4_orderAt_50 rfl rfl k200 (ob hob) rfl (V.iload3 h 54 dX4_orderAt_53 rfl (V.callNf (As := [.int _]) (st := []) h 57 dX4_orderAt_54 rfl k301 k343 k300 ks15 k2 hd_X2_hasPledge ⟨(Nat.le_of_ble_eq_true rfl), (Nat.le_of_ble_eq_true rfl)⟩ (Nat.le_of_ble_eq_true rfl) (ctP hd4).po rfl rfl ⟨Nat.zero_le _, Nat.zero_le _⟩ (c_X2_hasPledge (ctP hd4)) rfl ?_)))
      rw [hpl_k (show n < 12 by omega)]
      refine V.bif_eq h 76 60 dX4_orderAt_57 rfl rfl (fun c57 => ?_) (fun c57 => ?_)
      · refine V.incN3 h 79 dX4_orderAt_76 rfl rfl (V.goto h 43 dX4_orderAt_79 rfl ?_)
        first
        | exact ih (n + 1) (by omega) (by rw [if_neg (show ¬ cOr1 P ord pl n = true by unfold cOr1; rw [c57, Bool.false_and]; decide)] at hq; exact hq)
        | exact ih (n + 1) (by omega) (by rw [if_neg (show ¬ cOr1 P ord pl n = true by unfold cOr1; rw [decide_eq_false c71, Bool.and_false]; decide)] at hq; exact hq)
      · refine V.aload0 h 61 dX4_orderAt_60 rfl (V.aload0 h 62 dX4_orderAt_61 rfl (V.gX4 h 6 65 dX4_orderAt_62 rfl rfl k206 (ob hob) rfl (V.iload3 h 66 dX4_orderAt_65 rfl (V.laldN h 67 dX4_orderAt_66 rfl kto (by omega) (by decide) (V.callVf (As := [.long _]) (st := []) h 70 dX4_orderAt_67 rfl k454 k451 k453 ks39 k1 hd_X4_keysBelow ⟨(Nat.le_of_ble_eq_true rfl), (Nat.le_of_ble_eq_true rfl)⟩ (Nat.le_of_ble_eq_true rfl) (ob hob) rfl rfl ⟨Nat.zero_le _, Nat.zero_le _⟩ (c_X4_keysBelow hob) rfl ?_)))))
        rw [ek]
        refine V.iload2 h 71 dX4_orderAt_70 rfl ?_
        refine V.icmp_ne h 76 74 dX4_orderAt_71 rfl rfl (fun c71 => ?_) (fun c71 => ?_)
        · refine V.incN3 h 79 dX4_orderAt_76 rfl rfl (V.goto h 43 dX4_orderAt_79 rfl ?_)
          first
          | exact ih (n + 1) (by omega) (by rw [if_neg (show ¬ cOr1 P ord pl n = true by unfold cOr1; rw [c57, Bool.false_and]; decide)] at hq; exact hq)
          | exact ih (n + 1) (by omega) (by rw [if_neg (show ¬ cOr1 P ord pl n = true by unfold cOr1; rw [decide_eq_false c71, Bool.and_false]; decide)] at hq; exact hq)
        · refine V.iload3 h 75 dX4_orderAt_74 rfl ?_
          refine V.iret h hR dX4_orderAt_75 ?_
          rw [if_pos (show cOr1 P ord pl n = true by unfold cOr1; rw [c57, decide_eq_true (by simpa using c71)]; rfl), if_neg (show ¬ nI n = -1 from fun q => absurd (show nI n < 0 by rw [q]; decide) (nI_pos (by omega)))] at hq
          exact ⟨congrArg (fun z => some (Value.int z)) hq.symm, f, g, v, K, rfl⟩
  have L1 : (rng 0 ord 2 && !decide (pl < 0)) = true → ∀ (d n : Nat) (f g : Nat → Int32) (v : Int32) (K : Nat → Int64), n + d = 12 → (∀ k, k < n → K k = kyO P ord k) → V X 0 0 17 [some (.ref c), some (.int ord), some (.int pl), some (.int (nI n))] [] (kt w c P f g v K) := by
    intro hr d
    induction d with
    | zero =>
      intro n f g v K hnd hK
      obtain rfl : n = 12 := by omega
      refine V.iload3 h 18 dX4_orderAt_17 rfl (V.bipush h 20 dX4_orderAt_18 rfl ic2_12 ?_)
      refine V.icmp_ge h 41 23 dX4_orderAt_20 rfl rfl (fun _ => ?_) (fun q => absurd (lp_out (n := 12)) q)
      refine V.iconst h 42 dX4_orderAt_41 rfl ic1_0 (V.istore3 h 43 dX4_orderAt_42 rfl rfl ?_)
      exact L2 f g v K hK hr 12 0 rfl (by unfold cOr; rw [if_pos hr])
    | succ d ih =>
      intro n f g v K hnd hK
      have hk : n < 12 := by omega
      refine V.iload3 h 18 dX4_orderAt_17 rfl (V.bipush h 20 dX4_orderAt_18 rfl ic2_12 ?_)
      refine V.icmp_ge h 41 23 dX4_orderAt_20 rfl rfl (fun q => absurd q (lp_in (n := 12) (by omega))) (fun _ => ?_)
      refine V.aload0 h 24 dX4_orderAt_23 rfl (V.gX4 h 6 27 dX4_orderAt_24 rfl rfl k206 (ob hob) rfl (V.iload3 h 28 dX4_orderAt_27 rfl (V.aload0 h 29 dX4_orderAt_28 rfl (V.iload1 h 30 dX4_orderAt_29 rfl (V.iload3 h 31 dX4_orderAt_30 rfl (V.callVel (As := [.int _, .int _]) (st := [.int _, .ref _]) h 34 dX4_orderAt_31 rfl k449 k446 k448 ks38 k1 hd_X4_keyOf ⟨(Nat.le_of_ble_eq_true rfl), (Nat.le_of_ble_eq_true rfl)⟩ (Nat.le_of_ble_eq_true rfl) (ob hob) rfl rfl ⟨Nat.zero_le _, Nat.zero_le _⟩ (c_X4_keyOf hob hO hk) rfl (fun w31 hw31 => ?_)))))))
      obtain ⟨f1, g1, v1, rfl⟩ := hw31
      refine V.lastN h 35 dX4_orderAt_34 rfl kto (by omega) (by decide) ?_
      refine V.at _ ktw ?_
      refine V.incN3 h 38 dX4_orderAt_35 rfl rfl (V.goto h 17 dX4_orderAt_38 rfl ?_)
      refine ih (n + 1) _ _ _ _ (by omega) (fun k hkn => ?_)
      unfold va_up
      by_cases h : k = n
      · rw [if_pos h, h]
      · rw [if_neg h]; exact hK k (by omega)
  refine V.iload1 h 1 dX4_orderAt_0 rfl ?_
  refine V.if_lt h 13 4 dX4_orderAt_1 rfl rfl (fun c1 => ?_) (fun c1 => ?_)
  · refine V.iconst h 14 dX4_orderAt_13 rfl ic1_m1 ?_
    refine V.iret h hR dX4_orderAt_14 ?_
    first | exact ⟨by unfold cOr; rw [rng_f1 c1]; rfl, f, g, v, K, rfl⟩ | exact ⟨by unfold cOr; rw [rng_f2 (lt_n c6)]; rfl, f, g, v, K, rfl⟩ | exact ⟨by unfold cOr; rw [decide_eq_true (nle c10), Bool.not_true, Bool.and_false]; rfl, f, g, v, K, rfl⟩
  · refine V.iload1 h 5 dX4_orderAt_4 rfl (V.iconst h 6 dX4_orderAt_5 rfl ic1_2 ?_)
    refine V.icmp_gt h 13 9 dX4_orderAt_6 rfl rfl (fun c6 => ?_) (fun c6 => ?_)
    · refine V.iconst h 14 dX4_orderAt_13 rfl ic1_m1 ?_
      refine V.iret h hR dX4_orderAt_14 ?_
      first | exact ⟨by unfold cOr; rw [rng_f1 c1]; rfl, f, g, v, K, rfl⟩ | exact ⟨by unfold cOr; rw [rng_f2 (lt_n c6)]; rfl, f, g, v, K, rfl⟩ | exact ⟨by unfold cOr; rw [decide_eq_true (nle c10), Bool.not_true, Bool.and_false]; rfl, f, g, v, K, rfl⟩
    · refine V.iload2 h 10 dX4_orderAt_9 rfl ?_
      refine V.if_ge h 15 13 dX4_orderAt_10 rfl rfl (fun c10 => ?_) (fun c10 => ?_)
      · refine V.iconst h 16 dX4_orderAt_15 rfl ic1_0 (V.istore3 h 17 dX4_orderAt_16 rfl rfl ?_)
        exact L1 (by rw [rng_t c1 (nlt c6), decide_eq_false (le_n c10)]; rfl) 12 0 f g v K rfl (fun k h => absurd h (by omega))
      · refine V.iconst h 14 dX4_orderAt_13 rfl ic1_m1 ?_
        refine V.iret h hR dX4_orderAt_14 ?_
        first | exact ⟨by unfold cOr; rw [rng_f1 c1]; rfl, f, g, v, K, rfl⟩ | exact ⟨by unfold cOr; rw [rng_f2 (lt_n c6)]; rfl, f, g, v, K, rfl⟩ | exact ⟨by unfold cOr; rw [decide_eq_true (nle c10), Bool.not_true, Bool.and_false]; rfl, f, g, v, K, rfl⟩
