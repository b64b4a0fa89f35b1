/-! the class: the push -/
/-- a place and its judge, told -/
abbrev ct (w : Wd) (p j : Nat) (P : Pl) (f g : Nat → Int32) (v : Int32) : Wd := jt (ps w p P) p j f g v
theorem ct_eq {w : Wd} {p j : Nat} {P : Pl} {f g : Nat → Int32} {v : Int32} (hd : p + 10 ≤ j ∨ j + 3 ≤ p) : ct w p j P f g v = ps (jt w p j f g v) p P := by
  show rs (rs w p 10 _) j 3 _ = rs (rs w j 3 _) p 10 _
  exact rs_comm (by omega)
theorem ctP {w : Wd} {p j : Nat} {P : Pl} {f g : Nat → Int32} {v : Int32} (hd : p + 10 ≤ j ∨ j + 3 ≤ p) : PlaceAt (ct w p j P f g v) p P := jt_P PlaceAt_ps hd
def thk (P : Pl) (j a : Int32) : Pl := ua (ua (ua (ua (ua P 8 (upd (P 8) 12 8)) 9 (upd (P 9) 12 j)) 10 (upd (P 10) 12 a)) 11 (upd (P 11) 12 0)) 12 (upd (P 12) 12 0)
theorem c_X2_think {w : Wd} {p : Nat} {P : Pl} {j a : Int32} : K_X2_thinkOfExtra [.ref p, .int j, .int a] (ps w p P) (RV (ps w p (thk P j a))) := by
  refine Con.mk [some (.ref p), some (.int j), some (.int a)] (by decide) rfl rfl (Nat.le_of_ble_eq_true rfl) (fun X h hR hnm => ?_)
  have hP : ∀ P, PlaceAt (ps w p P) p P := fun _ => PlaceAt_ps
  refine V.aload0 h 1 dX2_thinkOfExtra_0 rfl (V.gX2 h 8 4 dX2_thinkOfExtra_1 rfl rfl k50 (hP _).po rfl (V.bipush h 6 dX2_thinkOfExtra_4 rfl ic2_12 (V.bipush h 8 dX2_thinkOfExtra_6 rfl ic2_8 (V.iastN (i := 12) h 9 dX2_thinkOfExtra_8 rfl (hP _).pa4 (by omega) (by decide) (V.at _ pw4 (V.aload0 h 10 dX2_thinkOfExtra_9 rfl (V.gX2 h 9 13 dX2_thinkOfExtra_10 rfl rfl k54 (hP _).po rfl ?_)))))))
  refine V.bipush h 15 dX2_thinkOfExtra_13 rfl ic2_12 (V.iload1 h 16 dX2_thinkOfExtra_15 rfl (V.iastN (i := 12) h 17 dX2_thinkOfExtra_16 rfl (hP _).pa5 (by omega) (by decide) (V.at _ pw5 (V.aload0 h 18 dX2_thinkOfExtra_17 rfl (V.gX2 h 10 21 dX2_thinkOfExtra_18 rfl rfl k58 (hP _).po rfl (V.bipush h 23 dX2_thinkOfExtra_21 rfl ic2_12 (V.iload2 h 24 dX2_thinkOfExtra_23 rfl ?_)))))))
  refine V.iastN (i := 12) h 25 dX2_thinkOfExtra_24 rfl (hP _).pa6 (by omega) (by decide) (V.at _ pw6 (V.aload0 h 26 dX2_thinkOfExtra_25 rfl (V.gX2 h 11 29 dX2_thinkOfExtra_26 rfl rfl k62 (hP _).po rfl (V.bipush h 31 dX2_thinkOfExtra_29 rfl ic2_12 (V.iconst h 32 dX2_thinkOfExtra_31 rfl ic1_0 (V.iastN (i := 12) h 33 dX2_thinkOfExtra_32 rfl (hP _).pa7 (by omega) (by decide) (V.at _ pw7 ?_)))))))
  refine V.aload0 h 34 dX2_thinkOfExtra_33 rfl (V.gX2 h 12 37 dX2_thinkOfExtra_34 rfl rfl k66 (hP _).po rfl (V.bipush h 39 dX2_thinkOfExtra_37 rfl ic2_12 (V.iconst h 40 dX2_thinkOfExtra_39 rfl ic1_0 (V.iastN (i := 12) h 41 dX2_thinkOfExtra_40 rfl (hP _).pa8 (by omega) (by decide) (V.at _ pw8 ?_)))))
  refine V.vret h hR dX2_thinkOfExtra_41 ?_
  exact ⟨rfl, rfl⟩
theorem c_X2_thinkc {w : Wd} {p j : Nat} {P : Pl} {f g : Nat → Int32} {v q a : Int32} (hd : p + 10 ≤ j ∨ j + 3 ≤ p) : K_X2_thinkOfExtra [.ref p, .int q, .int a] (ct w p j P f g v) (RV (ct w p j (thk P q a) f g v)) := by
  rw [ct_eq hd, ct_eq hd]
  exact c_X2_think
theorem thk_E {P : Pl} {j a : Int32} : E12 P (thk P j a) := by
  intro f k hk
  unfold thk ua upd
  by_cases h12 : f = 12
  · subst h12; simp [hk]
  · by_cases h11 : f = 11
    · subst h11; simp [hk]
    · by_cases h10 : f = 10
      · subst h10; simp [hk]
      · by_cases h9 : f = 9
        · subst h9; simp [hk]
        · by_cases h8 : f = 8
          · subst h8; simp [hk]
          · simp [h8, h9, h10, h11, h12]
theorem bt_4096 : ∀ k, k < 12 → Bt 4096 k = false := by decide
theorem bt_4096_12 : Bt 4096 12 = true := by decide
theorem bt_4096_ne : ∀ k, k < 13 → k ≠ 12 → Bt 4096 k = false := by decide
theorem mny_x {P : Pl} {a S : Int32} {j : Nat} (hj : j < 2 ^ 31) : mny P (nI j, a) S (nI j) = mny P noX S (nI j) + a := by
  unfold mny
  rw [show noX.1 = (-1 : Int32) from rfl, if_neg (m1_ne hj), Int32.zero_add, if_pos rfl, i32_add_comm]
/-- whether a push of a would do -/
def pdo (P : Pl) (j : Nat) (a : Int32) : Bool := hasG P (nI j, a) (std P (nI j, a) 0) (nI j)
theorem std_sb {P : Pl} {x : Ex} {g : Int32} : sb (std P x g) (live P) := sb_or (sb_grt (sb_and _ (sb_op P))) (sb_ca P)
theorem pdo_E {P P' : Pl} (h : E12 P P') (hO : POK P) {j : Nat} (hj : j < 4) {a : Int32} : pdo P' j a = pdo P j a := by
  unfold pdo
  have e1 : std P (nI j, a) 0 = std P' (nI j, a) 0 := std_cg (h.cg _) (hO.k (sb_op P)) (h 6 0 (by decide)).symm (h 7 0 (by decide)).symm
  rw [← e1, hasG_cg (h.cg (live P)) hj std_sb.s12]
def CW (w : Wd) (p j : Nat) (P : Pl) (u : Wd) : Prop := ∃ P' f g v, E12 P P' ∧ u = ct w p j P' f g v
theorem c_X1_reachesWith {w : Wd} {p j q0 : Nat} {P : Pl} {f g : Nat → Int32} {v a : Int32} (hd : p + 10 ≤ j ∨ j + 3 ≤ p) (hO : POK P) (hq : q0 < 4) : K_X1_reachesWith [.ref j, .int (nI q0), .int a] (ct w p j P f g v) (RE (bI (pdo P q0 a)) (CW w p j P)) := by
  refine Con.mk [some (.ref j), some (.int (nI q0)), some (.int a), none] (by decide) rfl rfl (Nat.le_of_ble_eq_true rfl) (fun X h hR hnm => ?_)
  have hP : ∀ P f g v, PlaceAt (ct w p j P f g v) p P := fun _ _ _ _ => ctP hd
  have hT : E12 P (thk P (nI q0) a) := thk_E
  obtain ⟨T, eT⟩ : ∃ T, T = thk P (nI q0) a := ⟨_, rfl⟩
  have t8 : T 8 12 = 8 := by rw [eT]; rfl
  have t9 : T 9 12 = nI q0 := by rw [eT]; rfl
  have t10 : T 10 12 = a := by rw [eT]; rfl
  rw [← eT] at hT
  have hOT := hT.ok hO
  have hlo : lo12 (T 6 0) := sb_lo (sb_op T) hOT.1
  have hW : WFm T (T 6 0 ||| (T 7 0 ||| 4096)) := by
    intro k hk hb
    by_cases h12 : k = 12
    · subst h12
      exact ⟨⟨q0, hq, t9⟩, ⟨8, by decide, t8⟩, fun _ => t8⟩
    · rw [bt_or, bt_or, bt_4096_ne k hk h12, Bool.or_false, ← bt_or] at hb
      obtain ⟨ht, ⟨g, hg, e⟩, -⟩ := hOT.2 k (by omega) hb
      exact ⟨ht, ⟨g, by omega, e⟩, fun e' => absurd e' h12⟩
  have hc : ∀ k, k < 12 → Bt (T 6 0) k = true → cOKc T k := fun k hk hb => (hOT.2 k hk (sb_op T k hb)).2.2
  have eX : exC T (T 7 0 ||| 4096) = (nI q0, a) := by
    unfold exC
    rw [bt_or, bt_4096_12, Bool.or_true, if_pos rfl, t9, t10]
  have eG : grt T (exC T (T 7 0 ||| 4096)) (T 6 0) (T 7 0 ||| 4096) = grt T (nI q0, a) (T 6 0) (T 7 0) := by
    rw [eX]
    exact grt_cg (E12.rf.cg (live T)) (hOT.k (sb_op T)) (fun k hk => by rw [bt_or, bt_4096 k hk, Bool.or_false]) (sb_op T).s12 (fun k hk hb => by
      rw [bt_or, bt_4096 k hk, Bool.or_false] at hb
      exact sb_ca T k hb)
  have eS : grt T (nI q0, a) (T 6 0) (T 7 0) ||| T 7 0 = std T (nI q0, a) 0 := (std_0 T _).symm
  have eM : amt T (forP T (nI q0) &&& std T (nI q0, a) 0) + a = mny T (nI q0, a) (std T (nI q0, a) 0) (nI q0) := by
    rw [mny_x (by omega), amt_for std_sb (by omega)]
  have eH : pdo P q0 a = decide (T 1 q0 ≤ mny T (nI q0, a) (std T (nI q0, a) 0) (nI q0)) := by
    rw [← pdo_E hT hO hq]
    unfold pdo hasG
    rw [nI_tn (by omega)]
  refine V.aload0 h 1 dX1_reachesWith_0 rfl (V.gX1 h 0 4 dX1_reachesWith_1 rfl rfl k126 jto rfl (V.iload1 h 5 dX1_reachesWith_4 rfl (V.iload2 h 6 dX1_reachesWith_5 rfl (V.callNfv (As := [.int _, .int _]) (st := []) h 9 dX1_reachesWith_6 rfl k413 k410 k412 ks36 k2 hd_X2_thinkOfExtra ⟨(Nat.le_of_ble_eq_true rfl), (Nat.le_of_ble_eq_true rfl)⟩ (Nat.le_of_ble_eq_true rfl) (hP _ _ _ _).po rfl rfl ⟨Nat.zero_le _, Nat.zero_le _⟩ (c_X2_thinkc hd) rfl ?_))))
  rw [← eT]
  refine V.aload0 h 10 dX1_reachesWith_9 rfl (V.aload0 h 11 dX1_reachesWith_10 rfl (V.gX1 h 0 14 dX1_reachesWith_11 rfl rfl k126 jto rfl (V.gX2N h 6 17 dX1_reachesWith_14 rfl rfl k44 (hP _ _ _ _).po rfl (V.aload0 h 18 dX1_reachesWith_17 rfl (V.gX1 h 0 21 dX1_reachesWith_18 rfl rfl k126 jto rfl (V.gX2N h 7 24 dX1_reachesWith_21 rfl rfl k48 (hP _ _ _ _).po rfl (V.sipush h 27 dX1_reachesWith_24 rfl ic3_4096 ?_)))))))
  refine V.ior h 28 dX1_reachesWith_27 rfl (V.callVe (As := [.int _, .int _]) (st := []) h 31 dX1_reachesWith_28 rfl k314 k352 k313 ks17 k3 hd_X1_greatest ⟨(Nat.le_of_ble_eq_true rfl), (Nat.le_of_ble_eq_true rfl)⟩ (Nat.le_of_ble_eq_true rfl) jto rfl rfl ⟨Nat.zero_le _, Nat.zero_le _⟩ (c_X1_greatest PlaceAt_ps hd hlo hW hc) rfl (fun w28 hw28 => ?_))
  obtain ⟨f1, g1, v1, rfl⟩ := hw28
  rw [eG]
  refine V.aload0 h 32 dX1_reachesWith_31 rfl (V.gX1 h 0 35 dX1_reachesWith_32 rfl rfl k126 jto rfl (V.gX2N h 7 38 dX1_reachesWith_35 rfl rfl k48 (hP _ _ _ _).po rfl (V.ior h 39 dX1_reachesWith_38 rfl ?_)))
  rw [eS]
  refine V.istore3 h 40 dX1_reachesWith_39 rfl rfl (V.aload0 h 41 dX1_reachesWith_40 rfl (V.gX1 h 0 44 dX1_reachesWith_41 rfl rfl k126 jto rfl (V.aload0 h 45 dX1_reachesWith_44 rfl (V.gX1 h 0 48 dX1_reachesWith_45 rfl rfl k126 jto rfl (V.iload1 h 49 dX1_reachesWith_48 rfl (V.callNf (As := [.int _]) (st := [.ref _]) h 52 dX1_reachesWith_49 rfl k338 k385 k337 ks22 k2 hd_X2_pledgesFor ⟨(Nat.le_of_ble_eq_true rfl), (Nat.le_of_ble_eq_true rfl)⟩ (Nat.le_of_ble_eq_true rfl) (hP _ _ _ _).po rfl rfl ⟨Nat.zero_le _, Nat.zero_le _⟩ (c_X2_pledgesFor (hP _ _ _ _)) rfl (V.iload3 h 53 dX1_reachesWith_52 rfl ?_)))))))
  refine V.iand h 54 dX1_reachesWith_53 rfl (V.callNf (As := [.int _]) (st := []) h 57 dX1_reachesWith_54 rfl k289 k386 k288 ks12 k2 hd_X2_sum ⟨(Nat.le_of_ble_eq_true rfl), (Nat.le_of_ble_eq_true rfl)⟩ (Nat.le_of_ble_eq_true rfl) (hP _ _ _ _).po rfl rfl ⟨Nat.zero_le _, Nat.zero_le _⟩ (c_X2_sum (hP _ _ _ _)) rfl (V.iload2 h 58 dX1_reachesWith_57 rfl (V.iadd h 59 dX1_reachesWith_58 rfl ?_)))
  rw [eM]
  refine V.aload0 h 60 dX1_reachesWith_59 rfl (V.gX1 h 0 63 dX1_reachesWith_60 rfl rfl k126 jto rfl (V.gX2N h 1 66 dX1_reachesWith_63 rfl rfl k28 (hP _ _ _ _).po rfl (V.iload1 h 67 dX1_reachesWith_66 rfl (V.ialdN h 68 dX1_reachesWith_67 rfl (hP _ _ _ _).pa1 (by omega) (by decide) ?_))))
  refine V.icmp_lt h 75 71 dX1_reachesWith_68 rfl rfl (fun c68 => ?_) (fun c68 => ?_)
  · refine V.iconst h 76 dX1_reachesWith_75 rfl ic1_0 ?_
    refine V.zret h hR (by first | exact bI_z _ | rfl) dX1_reachesWith_76 ?_
    first | exact RE_t (by rw [eH]; exact decide_eq_true (nlt c68)) ⟨T, f1, g1, v1, hT, rfl⟩ | exact RE_f (by rw [eH]; exact decide_eq_false (lt_n c68)) ⟨T, f1, g1, v1, hT, rfl⟩
  · refine V.iconst h 72 dX1_reachesWith_71 rfl ic1_1 (V.goto h 76 dX1_reachesWith_72 rfl ?_)
    refine V.zret h hR (by first | exact bI_z _ | rfl) dX1_reachesWith_76 ?_
    first | exact RE_t (by rw [eH]; exact decide_eq_true (nlt c68)) ⟨T, f1, g1, v1, hT, rfl⟩ | exact RE_f (by rw [eH]; exact decide_eq_false (lt_n c68)) ⟨T, f1, g1, v1, hT, rfl⟩
theorem half : ∀ n, n < 2048 → nI n >>> ((1 : Int32) &&& 31) = nI (n / 2) := by decide +kernel
theorem c_X1_push {w : Wd} {p j q0 G m : Nat} {P : Pl} {f g : Nat → Int32} {v : Int32} (hd : p + 10 ≤ j ∨ j + 3 ≤ p) (hO : POK P) (hq : q0 < 4) (hG : P 1 q0 = nI G) (h9 : G ≤ 999) (hm : hasG P noX (std P noX 0) (nI q0) = false → 1 ≤ m ∧ m ≤ G ∧ (∀ k, 1 ≤ k → k < m → pdo P q0 (nI k) = false) ∧ ∀ k, m ≤ k → k ≤ G → pdo P q0 (nI k) = true) :
    K_X1_push [.ref j, .int (nI q0)] (ct w p j P f g v) (RE (if hasG P noX (std P noX 0) (nI q0) = true then 0 else nI m) (CW w p j P)) := by
  refine Con.mk [some (.ref j), some (.int (nI q0)), none, none, none, none] (by decide) rfl rfl (Nat.le_of_ble_eq_true rfl) (fun X h hR hnm => ?_)
  have hP : ∀ P f g v, PlaceAt (ct w p j P f g v) p P := fun _ _ _ _ => ctP hd
  have L : 1 ≤ m ∧ m ≤ G ∧ (∀ k, 1 ≤ k → k < m → pdo P q0 (nI k) = false) ∧ (∀ k, m ≤ k → k ≤ G → pdo P q0 (nI k) = true) → hasG P noX (std P noX 0) (nI q0) = false → ∀ (d n l h' : Nat) (u : Option Value) (P' : Pl) (f g : Nat → Int32) (v : Int32), n + d = 10 → E12 P P' → 1 ≤ l → l ≤ m → m ≤ h' → h' ≤ G → h' < l + 2 ^ d → V X 0 0 25 [some (.ref j), some (.int (nI q0)), some (.int (nI l)), some (.int (nI h')), some (.int (nI n)), u] [] (ct w p j P' f g v) := by
    intro hm hno d
    induction d with
    | zero =>
      intro n l h' u P' f g v hnd hE h1 h2 h3 h4 h5
      obtain rfl : n = 10 := by omega
      obtain rfl : l = m := by omega
      refine V.iload4 h 27 dX1_push_25 rfl (V.bipush h 29 dX1_push_27 rfl ic2_10 ?_)
      refine V.icmp_ge h 71 32 dX1_push_29 rfl rfl (fun _ => ?_) (fun q => absurd (lp_out (n := 10)) q)
      refine V.iload2 h 72 dX1_push_71 rfl ?_
      refine V.iret h hR dX1_push_72 ?_
      exact ⟨by rw [hno]; rfl, P', f, g, v, hE, rfl⟩
    | succ d ih =>
      intro n l h' u P' f g v hnd hE h1 h2 h3 h4 h5
      by_cases hlh : l < h'
      · have e2 : (nI l + nI h') >>> ((1 : Int32) &&& 31) = nI ((l + h') / 2) := by rw [nI_add, half _ (by omega)]
        have hpd : ∀ k, pdo P' q0 (nI k) = pdo P q0 (nI k) := fun k => pdo_E hE hO hq
        have hp2 : 2 ^ (d + 1) = 2 ^ d + 2 ^ d := by rw [Nat.pow_succ]; omega
        refine V.iload4 h 27 dX1_push_25 rfl (V.bipush h 29 dX1_push_27 rfl ic2_10 ?_)
        refine V.icmp_ge h 71 32 dX1_push_29 rfl rfl (fun q => absurd q (lp_in (n := 10) (by omega))) (fun _ => ?_)
        refine V.iload2 h 33 dX1_push_32 rfl (V.iload3 h 34 dX1_push_33 rfl ?_)
        refine V.icmp_ge h 71 37 dX1_push_34 rfl rfl (fun q => absurd q (show ¬ nI h' ≤ nI l from nI_ge hlh (by omega))) (fun _ => ?_)
        refine V.iload2 h 38 dX1_push_37 rfl (V.iload3 h 39 dX1_push_38 rfl (V.iadd h 40 dX1_push_39 rfl (V.iconst h 41 dX1_push_40 rfl ic1_1 (V.ishr h 42 dX1_push_41 rfl ?_))))
        rw [e2]
        refine V.istore5 h 44 dX1_push_42 rfl rfl (V.aload0 h 45 dX1_push_44 rfl (V.iload1 h 46 dX1_push_45 rfl (V.iload5 h 48 dX1_push_46 rfl (V.callVe (As := [.int _, .int _]) (st := []) h 51 dX1_push_48 rfl k409 k406 k408 ks35 k3 hd_X1_reachesWith ⟨(Nat.le_of_ble_eq_true rfl), (Nat.le_of_ble_eq_true rfl)⟩ (Nat.le_of_ble_eq_true rfl) jto rfl rfl ⟨Nat.zero_le _, Nat.zero_le _⟩ (c_X1_reachesWith hd (hE.ok hO) hq) rfl (fun w48 hw48 => ?_)))))
        obtain ⟨P2, f1, g1, v1, hE2, rfl⟩ := hw48
        refine V.bif_eq h 60 54 dX1_push_51 rfl rfl (fun c51 => ?_) (fun c51 => ?_)
        · refine V.iload5 h 62 dX1_push_60 rfl (V.iconst h 63 dX1_push_62 rfl ic1_1 (V.iadd h 64 dX1_push_63 rfl (V.istore2 h 65 dX1_push_64 rfl rfl (V.incN4 h 68 dX1_push_65 rfl rfl (V.goto h 25 dX1_push_68 rfl ?_)))))
          first
          | (rw [show nI ((l + h') / 2) + 1 = nI ((l + h') / 2 + 1) from (nI_succ _).symm]; refine ih (n + 1) _ _ _ _ _ _ _ (by omega) (hE.tr hE2) (by omega) ?_ h3 h4 (by omega); rw [hpd] at c51; apply Classical.byContradiction; intro hc; exact absurd ((hm.2.2.2 ((l + h') / 2) (by omega) (by omega)).symm.trans c51) (by decide))
          | (refine ih (n + 1) _ _ _ _ _ _ _ (by omega) (hE.tr hE2) h1 h2 ?_ (by omega) (by omega); rw [hpd] at c51; apply Classical.byContradiction; intro hc; exact absurd ((hm.2.2.1 ((l + h') / 2) (by omega) (by omega)).symm.trans c51) (by decide))
        · refine V.iload5 h 56 dX1_push_54 rfl (V.istore3 h 57 dX1_push_56 rfl rfl (V.goto h 65 dX1_push_57 rfl (V.incN4 h 68 dX1_push_65 rfl rfl (V.goto h 25 dX1_push_68 rfl ?_))))
          first
          | (rw [show nI ((l + h') / 2) + 1 = nI ((l + h') / 2 + 1) from (nI_succ _).symm]; refine ih (n + 1) _ _ _ _ _ _ _ (by omega) (hE.tr hE2) (by omega) ?_ h3 h4 (by omega); rw [hpd] at c51; apply Classical.byContradiction; intro hc; exact absurd ((hm.2.2.2 ((l + h') / 2) (by omega) (by omega)).symm.trans c51) (by decide))
          | (refine ih (n + 1) _ _ _ _ _ _ _ (by omega) (hE.tr hE2) h1 h2 ?_ (by omega) (by omega); rw [hpd] at c51; apply Classical.byContradiction; intro hc; exact absurd ((hm.2.2.1 ((l + h') / 2) (by omega) (by omega)).symm.trans c51) (by decide))
      · obtain rfl : l = m := by omega
        refine V.iload4 h 27 dX1_push_25 rfl (V.bipush h 29 dX1_push_27 rfl ic2_10 ?_)
        refine V.icmp_ge h 71 32 dX1_push_29 rfl rfl (fun q => absurd q (lp_in (n := 10) (by omega))) (fun _ => ?_)
        refine V.iload2 h 33 dX1_push_32 rfl (V.iload3 h 34 dX1_push_33 rfl ?_)
        refine V.icmp_ge h 71 37 dX1_push_34 rfl rfl (fun _ => ?_) (fun q => absurd (show nI h' ≤ nI l from nI_le (by omega) (by omega)) q)
        refine V.iload2 h 72 dX1_push_71 rfl ?_
        refine V.iret h hR dX1_push_72 ?_
        exact ⟨by rw [hno]; rfl, P', f, g, v, hE, rfl⟩
  refine V.aload0 h 1 dX1_push_0 rfl (V.iload1 h 2 dX1_push_1 rfl (V.callVe (As := [.int _]) (st := []) h 5 dX1_push_2 rfl k380 k405 k379 ks29 k3 hd_X1_hasGoal ⟨(Nat.le_of_ble_eq_true rfl), (Nat.le_of_ble_eq_true rfl)⟩ (Nat.le_of_ble_eq_true rfl) jto rfl rfl ⟨Nat.zero_le _, Nat.zero_le _⟩ (c_X1_hasGoal PlaceAt_ps hd hO hq) rfl (fun w2 hw2 => ?_)))
  obtain ⟨f1, g1, v1, rfl⟩ := hw2
  refine V.bif_eq h 10 8 dX1_push_5 rfl rfl (fun c5 => ?_) (fun c5 => ?_)
  · refine V.iconst h 11 dX1_push_10 rfl ic1_1 (V.istore2 h 12 dX1_push_11 rfl rfl (V.aload0 h 13 dX1_push_12 rfl (V.gX1 h 0 16 dX1_push_13 rfl rfl k126 jto rfl (V.gX2N h 1 19 dX1_push_16 rfl rfl k28 (hP _ _ _ _).po rfl (V.iload1 h 20 dX1_push_19 rfl (V.ialdN h 21 dX1_push_20 rfl (hP _ _ _ _).pa1 (by omega) (by decide) ?_))))))
    rw [hG]
    refine V.istore3 h 22 dX1_push_21 rfl rfl (V.iconst h 23 dX1_push_22 rfl ic1_0 (V.istore4 h 25 dX1_push_23 rfl rfl ?_))
    have hm' := hm c5
    exact L hm' c5 10 0 1 G none P f1 g1 v1 rfl E12.rf (Nat.le_refl _) hm'.1 hm'.2.1 (Nat.le_refl _) (by omega)
  · refine V.iconst h 9 dX1_push_8 rfl ic1_0 ?_
    refine V.iret h hR dX1_push_9 ?_
    exact ⟨by rw [show hasG P noX (std P noX 0) (nI q0) = true from c5]; rfl, P, f1, g1, v1, E12.rf, rfl⟩
