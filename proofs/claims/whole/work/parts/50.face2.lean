/-! the class: what its face tells, more -/
def cPe (P : Pl) (v what : Int32) : Int32 :=
  if (hpe P v && rng 0 what 5) = true then
    (if what = 0 then P 4 v.toNatClampNeg
     else if what = 1 then amt P (ofP P v &&& P 6 0)
     else if what = 2 then amt P (ofP P v &&& P 6 0 &&& std P noX 0)
     else if what = 3 then P 5 v.toNatClampNeg
     else if what = 4 then ofP P v
     else cnt (std P noX 0 &&& (std P noX (ofP P v &&& P 6 0) ^^^ (-1)) &&& (ofP P v ^^^ (-1))))
  else -1
theorem c_X4_personOf {w : Wd} {c nq : Nat} {P : Pl} {f g : Nat → Int32} {v x y what : Int32} (hob : OB w c x) (hO : POK P) (hn : P 3 0 = nI nq) (h8 : nq ≤ 8) :
    K_X4_personOf [.ref c, .int y, .int what] (ct w (c + 1) (c + 11) P f g v) (RW (cPe P y what) w c P) := by
  refine Con.mk [some (.ref c), some (.int y), some (.int what), none] (by decide) rfl rfl (Nat.le_of_ble_eq_true rfl) (fun X h hR hnm => ?_)
  by_cases hy : hpe P y = true
  · obtain ⟨j, hjn, rfl⟩ := rng_pred (n := nq) (by omega) (by rw [← hn, ← hpe_rng hn (by omega)]; exact hy)
    have hq : rng 0 what 5 = true → cPe P (nI j) what = (if what = 0 then P 4 j else if what = 1 then amt P (ofP P (nI j) &&& P 6 0) else if what = 2 then amt P (ofP P (nI j) &&& P 6 0 &&& std P noX 0) else if what = 3 then P 5 j else if what = 4 then ofP P (nI j) else cnt (std P noX 0 &&& (std P noX (ofP P (nI j) &&& P 6 0) ^^^ (-1)) &&& (ofP P (nI j) ^^^ (-1)))) := by
      intro h9
      unfold cPe; rw [hy, h9, nI_tn (by omega)]; rfl
    refine V.aload0 h 1 dX4_personOf_0 rfl (V.gX4 h 0 4 dX4_personOf_1 rfl rfl k200 (ob hob) rfl (V.iload1 h 5 dX4_personOf_4 rfl (V.callNf (As := [.int _]) (st := []) h 8 dX4_personOf_5 rfl k269 k418 k268 ks7 k2 hd_X2_hasPerson ⟨(Nat.le_of_ble_eq_true rfl), (Nat.le_of_ble_eq_true rfl)⟩ (Nat.le_of_ble_eq_true rfl) (ctP hd4).po rfl rfl ⟨Nat.zero_le _, Nat.zero_le _⟩ (c_X2_hasPerson (ctP hd4)) rfl ?_)))
    refine V.bif_eq h 20 11 dX4_personOf_8 rfl rfl (fun q => absurd ((Eq.symm hy).trans q) (by decide)) (fun _ => ?_)
    refine V.iload2 h 12 dX4_personOf_11 rfl ?_
    refine V.if_lt h 20 15 dX4_personOf_12 rfl rfl (fun c12 => ?_) (fun c12 => ?_)
    · refine V.iconst h 21 dX4_personOf_20 rfl ic1_m1 ?_
      refine V.iret h hR dX4_personOf_21 ?_
      first | exact RW_of (by unfold cPe; rw [rng_f1 c12, Bool.and_false]; rfl) | exact RW_of (by unfold cPe; rw [rng_f2 c17, Bool.and_false]; rfl)
    · refine V.iload2 h 16 dX4_personOf_15 rfl (V.iconst h 17 dX4_personOf_16 rfl ic1_5 ?_)
      refine V.icmp_le h 22 20 dX4_personOf_17 rfl rfl (fun c17 => ?_) (fun c17 => ?_)
      · have hq := hq (rng_t c12 c17)
        refine V.aload0 h 23 dX4_personOf_22 rfl (V.gX4 h 0 26 dX4_personOf_23 rfl rfl k200 (ob hob) rfl (V.iload1 h 27 dX4_personOf_26 rfl (V.callNf (As := [.int _]) (st := []) h 30 dX4_personOf_27 rfl k281 k419 k280 ks10 k2 hd_X2_pledgesOf ⟨(Nat.le_of_ble_eq_true rfl), (Nat.le_of_ble_eq_true rfl)⟩ (Nat.le_of_ble_eq_true rfl) (ctP hd4).po rfl rfl ⟨Nat.zero_le _, Nat.zero_le _⟩ (c_X2_pledgesOf (ctP hd4)) rfl (V.istore3 h 31 dX4_personOf_30 rfl rfl (V.iload2 h 32 dX4_personOf_31 rfl ?_)))))
        refine V.tcase (off := 36) h (0 : Int32) 68 dX4_personOf_32 (by decide) (by decide +kernel) rfl (fun c32_0 => ?_) (fun c32_0 => ?_)
        · refine V.aload0 h 69 dX4_personOf_68 rfl (V.gX4 h 0 72 dX4_personOf_69 rfl rfl k200 (ob hob) rfl (V.gX2N h 4 75 dX4_personOf_72 rfl rfl k38 (ctP hd4).po rfl (V.iload1 h 76 dX4_personOf_75 rfl (V.ialdN h 77 dX4_personOf_76 rfl (ctP hd4).pa2 (by omega) (by decide) ?_))))
          refine V.iret h hR dX4_personOf_77 ?_
          exact RW_of (by rw [hq, if_pos c32_0])
        refine V.tcase (off := 46) h (1 : Int32) 78 dX4_personOf_32 (by decide) (by decide +kernel) rfl (fun c32_1 => ?_) (fun c32_1 => ?_)
        · refine V.aload0 h 79 dX4_personOf_78 rfl (V.gX4 h 0 82 dX4_personOf_79 rfl rfl k200 (ob hob) rfl (V.iload3 h 83 dX4_personOf_82 rfl (V.aload0 h 84 dX4_personOf_83 rfl (V.gX4 h 0 87 dX4_personOf_84 rfl rfl k200 (ob hob) rfl (V.gX2N h 6 90 dX4_personOf_87 rfl rfl k45 (ctP hd4).po rfl (V.iand h 91 dX4_personOf_90 rfl ?_))))))
          refine V.callNf (As := [.int _]) (st := []) h 94 dX4_personOf_91 rfl k289 k376 k288 ks12 k2 hd_X2_sum ⟨(Nat.le_of_ble_eq_true rfl), (Nat.le_of_ble_eq_true rfl)⟩ (Nat.le_of_ble_eq_true rfl) (ctP hd4).po rfl rfl ⟨Nat.zero_le _, Nat.zero_le _⟩ (c_X2_sum (ctP hd4)) rfl ?_
          refine V.iret h hR dX4_personOf_94 ?_
          exact RW_of (by rw [hq, if_neg c32_0, if_pos c32_1])
        refine V.tcase (off := 63) h (2 : Int32) 95 dX4_personOf_32 (by decide) (by decide +kernel) rfl (fun c32_2 => ?_) (fun c32_2 => ?_)
        · refine V.aload0 h 96 dX4_personOf_95 rfl (V.gX4 h 0 99 dX4_personOf_96 rfl rfl k200 (ob hob) rfl (V.iload3 h 100 dX4_personOf_99 rfl (V.aload0 h 101 dX4_personOf_100 rfl (V.gX4 h 0 104 dX4_personOf_101 rfl rfl k200 (ob hob) rfl (V.gX2N h 6 107 dX4_personOf_104 rfl rfl k45 (ctP hd4).po rfl (V.iand h 108 dX4_personOf_107 rfl (V.aload0 h 109 dX4_personOf_108 rfl ?_)))))))
          refine V.gX4 h 1 112 dX4_personOf_109 rfl rfl k201 (ob hob) rfl (V.callNe (As := []) (st := [.int _, .ref _]) h 115 dX4_personOf_112 rfl k347 k344 k346 ks23 k3 hd_X1_stand ⟨(Nat.le_of_ble_eq_true rfl), (Nat.le_of_ble_eq_true rfl)⟩ (Nat.le_of_ble_eq_true rfl) jto rfl rfl ⟨Nat.zero_le _, Nat.zero_le _⟩ (c_X1_stand PlaceAt_ps hd4 hO) rfl (fun w112 hw112 => ?_))
          obtain ⟨f1, g1, v1, rfl⟩ := hw112
          refine V.iand h 116 dX4_personOf_115 rfl (V.callNf (As := [.int _]) (st := []) h 119 dX4_personOf_116 rfl k289 k376 k288 ks12 k2 hd_X2_sum ⟨(Nat.le_of_ble_eq_true rfl), (Nat.le_of_ble_eq_true rfl)⟩ (Nat.le_of_ble_eq_true rfl) (ctP hd4).po rfl rfl ⟨Nat.zero_le _, Nat.zero_le _⟩ (c_X2_sum (ctP hd4)) rfl ?_)
          refine V.iret h hR dX4_personOf_119 ?_
          exact RW_of (by rw [hq, if_neg c32_0, if_neg c32_1, if_pos c32_2])
        refine V.tcase (off := 88) h (3 : Int32) 120 dX4_personOf_32 (by decide) (by decide +kernel) rfl (fun c32_3 => ?_) (fun c32_3 => ?_)
        · refine V.aload0 h 121 dX4_personOf_120 rfl (V.gX4 h 0 124 dX4_personOf_121 rfl rfl k200 (ob hob) rfl (V.gX2N h 5 127 dX4_personOf_124 rfl rfl k41 (ctP hd4).po rfl (V.iload1 h 128 dX4_personOf_127 rfl (V.ialdN h 129 dX4_personOf_128 rfl (ctP hd4).pa3 (by omega) (by decide) ?_))))
          refine V.iret h hR dX4_personOf_129 ?_
          exact RW_of (by rw [hq, if_neg c32_0, if_neg c32_1, if_neg c32_2, if_pos c32_3])
        refine V.tcase (off := 98) h (4 : Int32) 130 dX4_personOf_32 (by decide) (by decide +kernel) rfl (fun c32_4 => ?_) (fun c32_4 => ?_)
        · refine V.iload3 h 131 dX4_personOf_130 rfl ?_
          refine V.iret h hR dX4_personOf_131 ?_
          exact RW_of (by rw [hq, if_neg c32_0, if_neg c32_1, if_neg c32_2, if_neg c32_3, if_pos c32_4])
        refine V.tdflt h 132 dX4_personOf_32 (by have e0 := lv_neT (a := 0) c32_0 (by decide); have e1 := lv_neT (a := 1) c32_1 (by decide); have e2 := lv_neT (a := 2) c32_2 (by decide); have e3 := lv_neT (a := 3) c32_3 (by decide); have e4 := lv_neT (a := 4) c32_4 (by decide); omega) rfl ?_
        refine V.aload0 h 133 dX4_personOf_132 rfl (V.gX4 h 1 136 dX4_personOf_133 rfl rfl k201 (ob hob) rfl (V.iload3 h 137 dX4_personOf_136 rfl (V.aload0 h 138 dX4_personOf_137 rfl (V.gX4 h 0 141 dX4_personOf_138 rfl rfl k200 (ob hob) rfl (V.gX2N h 6 144 dX4_personOf_141 rfl rfl k45 (ctP hd4).po rfl (V.iand h 145 dX4_personOf_144 rfl ?_))))))
        refine V.callNe (As := [.int _]) (st := []) h 148 dX4_personOf_145 rfl k368 k365 k367 ks28 k3 hd_X1_fallenWithout ⟨(Nat.le_of_ble_eq_true rfl), (Nat.le_of_ble_eq_true rfl)⟩ (Nat.le_of_ble_eq_true rfl) jto rfl rfl ⟨Nat.zero_le _, Nat.zero_le _⟩ (c_X1_fallenWithout PlaceAt_ps hd4 hO) rfl (fun w145 hw145 => ?_)
        obtain ⟨f1, g1, v1, rfl⟩ := hw145
        refine V.iload3 h 149 dX4_personOf_148 rfl (V.iconst h 150 dX4_personOf_149 rfl ic1_m1 (V.ixor h 151 dX4_personOf_150 rfl (V.iand h 152 dX4_personOf_151 rfl (V.callSf (As := [.int _]) (st := []) h 155 dX4_personOf_152 rfl k422 k420 k421 k8 hd_J6_bitCount_0f7a4 ⟨(Nat.le_of_ble_eq_true rfl), (Nat.le_of_ble_eq_true rfl)⟩ (Nat.le_of_ble_eq_true rfl) ⟨Nat.zero_le _, Nat.zero_le _⟩ (c_bitCount (lo12_and _ (lo12_and _ (sb_lo std_sb hO.1)))) rfl ?_))))
        refine V.iret h hR dX4_personOf_155 ?_
        exact RW_of (by rw [hq, if_neg c32_0, if_neg c32_1, if_neg c32_2, if_neg c32_3, if_neg c32_4])
      · refine V.iconst h 21 dX4_personOf_20 rfl ic1_m1 ?_
        refine V.iret h hR dX4_personOf_21 ?_
        first | exact RW_of (by unfold cPe; rw [rng_f1 c12, Bool.and_false]; rfl) | exact RW_of (by unfold cPe; rw [rng_f2 c17, Bool.and_false]; rfl)
  · have hy : hpe P y = false := by simpa using hy
    refine V.aload0 h 1 dX4_personOf_0 rfl (V.gX4 h 0 4 dX4_personOf_1 rfl rfl k200 (ob hob) rfl (V.iload1 h 5 dX4_personOf_4 rfl (V.callNf (As := [.int _]) (st := []) h 8 dX4_personOf_5 rfl k269 k418 k268 ks7 k2 hd_X2_hasPerson ⟨(Nat.le_of_ble_eq_true rfl), (Nat.le_of_ble_eq_true rfl)⟩ (Nat.le_of_ble_eq_true rfl) (ctP hd4).po rfl rfl ⟨Nat.zero_le _, Nat.zero_le _⟩ (c_X2_hasPerson (ctP hd4)) rfl ?_)))
    refine V.bif_eq h 20 11 dX4_personOf_8 rfl rfl (fun _ => ?_) (fun q => absurd ((Eq.symm hy).trans q) (by decide))
    refine V.iconst h 21 dX4_personOf_20 rfl ic1_m1 ?_
    refine V.iret h hR dX4_personOf_21 ?_
    exact RW_of (by unfold cPe; rw [hy]; rfl)
def cSta (P : Pl) (S : Int32) : Int32 := if S &&& (live P ^^^ (-1)) = 0 then (if S &&& P 7 0 = 0 then std P noX S else -2) else -1
theorem cEr_0 {P : Pl} {S : Int32} (h : ¬ cEr P S < 0) : S &&& (live P ^^^ (-1)) = 0 ∧ S &&& P 7 0 = 0 := by
  unfold cEr at h
  by_cases h1 : S &&& (live P ^^^ (-1)) = 0
  · rw [if_pos h1] at h
    by_cases h2 : S &&& P 7 0 = 0
    · exact ⟨h1, h2⟩
    · rw [if_neg h2] at h; exact absurd (by decide) h
  · rw [if_neg h1] at h; exact absurd (by decide) h
theorem cEr_n {P : Pl} {S r : Int32} (h : cEr P S < 0) : (if S &&& (live P ^^^ (-1)) = 0 then (if S &&& P 7 0 = 0 then r else -2) else -1) = cEr P S := by
  unfold cEr at *
  by_cases h1 : S &&& (live P ^^^ (-1)) = 0
  · rw [if_pos h1] at *
    rw [if_pos h1]
    by_cases h2 : S &&& P 7 0 = 0
    · rw [if_pos h2] at h; exact absurd h (by decide)
    · rw [if_neg h2, if_neg h2]
  · rw [if_neg h1, if_neg h1]
theorem c_X4_standing {w : Wd} {c : Nat} {P : Pl} {f g : Nat → Int32} {v x S : Int32} (hob : OB w c x) (hO : POK P) :
    K_X4_standing [.ref c, .int S] (ct w (c + 1) (c + 11) P f g v) (RW (cSta P S) w c P) := by
  refine Con.mk [some (.ref c), some (.int S), none] (by decide) rfl rfl (Nat.le_of_ble_eq_true rfl) (fun X h hR hnm => ?_)
  refine V.aload0 h 1 dX4_standing_0 rfl (V.iload1 h 2 dX4_standing_1 rfl (V.callVf (As := [.int _]) (st := []) h 5 dX4_standing_2 rfl k433 k430 k432 ks37 k1 hd_X4_errorOfSet ⟨(Nat.le_of_ble_eq_true rfl), (Nat.le_of_ble_eq_true rfl)⟩ (Nat.le_of_ble_eq_true rfl) (ob hob) rfl rfl ⟨Nat.zero_le _, Nat.zero_le _⟩ (c_X4_errorOfSet hob) rfl (V.istore2 h 6 dX4_standing_5 rfl rfl (V.iload2 h 7 dX4_standing_6 rfl ?_))))
  refine V.if_ge h 14 10 dX4_standing_7 rfl rfl (fun c7 => ?_) (fun c7 => ?_)
  · refine V.aload0 h 15 dX4_standing_14 rfl (V.gX4 h 1 18 dX4_standing_15 rfl rfl k201 (ob hob) rfl (V.iload1 h 19 dX4_standing_18 rfl (V.callNe (As := [.int _]) (st := []) h 22 dX4_standing_19 rfl k351 k435 k350 ks24 k3 hd_X1_standWithout ⟨(Nat.le_of_ble_eq_true rfl), (Nat.le_of_ble_eq_true rfl)⟩ (Nat.le_of_ble_eq_true rfl) jto rfl rfl ⟨Nat.zero_le _, Nat.zero_le _⟩ (c_X1_standWithout PlaceAt_ps hd4 hO) rfl (fun w19 hw19 => ?_))))
    obtain ⟨f1, g1, v1, rfl⟩ := hw19
    refine V.iret h hR dX4_standing_22 ?_
    first | exact RW_of (cEr_n c7).symm | exact RW_of (cEr_n (nle c7)).symm | exact RW_of (by unfold cSta; rw [if_pos (cEr_0 (le_n c7)).1, if_pos (cEr_0 (le_n c7)).2]) | exact RW_of (by unfold cSta; rw [if_pos (cEr_0 c7).1, if_pos (cEr_0 c7).2])
  · refine V.iload2 h 11 dX4_standing_10 rfl (V.goto h 22 dX4_standing_11 rfl ?_)
    refine V.iret h hR dX4_standing_22 ?_
    first | exact RW_of (cEr_n c7).symm | exact RW_of (cEr_n (nle c7)).symm | exact RW_of (by unfold cSta; rw [if_pos (cEr_0 (le_n c7)).1, if_pos (cEr_0 (le_n c7)).2]) | exact RW_of (by unfold cSta; rw [if_pos (cEr_0 c7).1, if_pos (cEr_0 c7).2])
def cSet (P : Pl) (S what : Int32) : Int32 :=
  if rng 0 what 2 = true then
    (if S &&& (live P ^^^ (-1)) = 0 then (if S &&& P 7 0 = 0 then (if what = 0 then bI (decide (fal P noX S (P 7 0) = 0)) else if what = 1 then fal P noX S (P 7 0) else grt P noX S (P 7 0)) else -2) else -1)
  else -1
theorem c_X4_setOf {w : Wd} {c : Nat} {P : Pl} {f g : Nat → Int32} {v x S what : Int32} (hob : OB w c x) (hO : POK P) :
    K_X4_setOf [.ref c, .int S, .int what] (ct w (c + 1) (c + 11) P f g v) (RW (cSet P S what) w c P) := by
  refine Con.mk [some (.ref c), some (.int S), some (.int what), none] (by decide) rfl rfl (Nat.le_of_ble_eq_true rfl) (fun X h hR hnm => ?_)
  refine V.iload2 h 1 dX4_setOf_0 rfl ?_
  refine V.if_lt h 9 4 dX4_setOf_1 rfl rfl (fun c1 => ?_) (fun c1 => ?_)
  · refine V.iconst h 10 dX4_setOf_9 rfl ic1_m1 ?_
    refine V.iret h hR dX4_setOf_10 ?_
    first | exact RW_of (by unfold cSet; rw [rng_f1 c1]; rfl) | exact RW_of (by unfold cSet; rw [rng_f2 c6]; rfl)
  · refine V.iload2 h 5 dX4_setOf_4 rfl (V.iconst h 6 dX4_setOf_5 rfl ic1_2 ?_)
    refine V.icmp_le h 11 9 dX4_setOf_6 rfl rfl (fun c6 => ?_) (fun c6 => ?_)
    · refine V.aload0 h 12 dX4_setOf_11 rfl (V.iload1 h 13 dX4_setOf_12 rfl (V.callVf (As := [.int _]) (st := []) h 16 dX4_setOf_13 rfl k433 k430 k432 ks37 k1 hd_X4_errorOfSet ⟨(Nat.le_of_ble_eq_true rfl), (Nat.le_of_ble_eq_true rfl)⟩ (Nat.le_of_ble_eq_true rfl) (ob hob) rfl rfl ⟨Nat.zero_le _, Nat.zero_le _⟩ (c_X4_errorOfSet hob) rfl (V.istore3 h 17 dX4_setOf_16 rfl rfl (V.iload3 h 18 dX4_setOf_17 rfl ?_))))
      refine V.if_ge h 23 21 dX4_setOf_18 rfl rfl (fun c18 => ?_) (fun c18 => ?_)
      · obtain ⟨he1, he2⟩ := cEr_0 (P := P) (S := S) (by first | exact c18 | exact le_n c18)
        have hSl : sb S (live P) := sb_of he1
        have hq : cSet P S what = (if what = 0 then bI (decide (fal P noX S (P 7 0) = 0)) else if what = 1 then fal P noX S (P 7 0) else grt P noX S (P 7 0)) := by
          unfold cSet; rw [rng_t c1 c6, if_pos rfl, if_pos he1, if_pos he2]
        refine V.iload2 h 24 dX4_setOf_23 rfl ?_
        refine V.lcase (off := 28) h (0 : Int32) 52 dX4_setOf_24 (by decide +kernel) (by decide +kernel) rfl (fun c24_0 => ?_) (fun c24_0 => ?_)
        · refine V.aload0 h 53 dX4_setOf_52 rfl (V.gX4 h 1 56 dX4_setOf_53 rfl rfl k201 (ob hob) rfl (V.iload1 h 57 dX4_setOf_56 rfl (V.aload0 h 58 dX4_setOf_57 rfl (V.gX4 h 0 61 dX4_setOf_58 rfl rfl k200 (ob hob) rfl (V.gX2N h 7 64 dX4_setOf_61 rfl rfl k49 (ctP hd4).po rfl (V.callNe (As := [.int _, .int _]) (st := []) h 67 dX4_setOf_64 rfl k318 k440 k317 ks18 k3 hd_X1_failing ⟨(Nat.le_of_ble_eq_true rfl), (Nat.le_of_ble_eq_true rfl)⟩ (Nat.le_of_ble_eq_true rfl) jto rfl rfl ⟨Nat.zero_le _, Nat.zero_le _⟩ (c_X1_failing0 PlaceAt_ps hd4 hO hSl (sb_ca P)) rfl (fun w64 hw64 => ?_)))))))
          obtain ⟨f1, g1, v1, rfl⟩ := hw64
          refine V.if_ne h 74 70 dX4_setOf_67 rfl rfl (fun c67 => ?_) (fun c67 => ?_)
          · refine V.iconst h 75 dX4_setOf_74 rfl ic1_0 ?_
            refine V.iret h hR dX4_setOf_75 ?_
            rw [if_pos c24_0] at hq
            first | exact RW_of (by rw [hq, decide_eq_true (by simpa using c67)]; rfl) | exact RW_of (by rw [hq, decide_eq_false (by simpa using c67)]; rfl)
          · refine V.iconst h 71 dX4_setOf_70 rfl ic1_1 (V.goto h 75 dX4_setOf_71 rfl ?_)
            refine V.iret h hR dX4_setOf_75 ?_
            rw [if_pos c24_0] at hq
            first | exact RW_of (by rw [hq, decide_eq_true (by simpa using c67)]; rfl) | exact RW_of (by rw [hq, decide_eq_false (by simpa using c67)]; rfl)
        refine V.lcase (off := 52) h (1 : Int32) 76 dX4_setOf_24 (by decide +kernel) (by decide +kernel) rfl (fun c24_1 => ?_) (fun c24_1 => ?_)
        · refine V.aload0 h 77 dX4_setOf_76 rfl (V.gX4 h 1 80 dX4_setOf_77 rfl rfl k201 (ob hob) rfl (V.iload1 h 81 dX4_setOf_80 rfl (V.aload0 h 82 dX4_setOf_81 rfl (V.gX4 h 0 85 dX4_setOf_82 rfl rfl k200 (ob hob) rfl (V.gX2N h 7 88 dX4_setOf_85 rfl rfl k49 (ctP hd4).po rfl (V.callNe (As := [.int _, .int _]) (st := []) h 91 dX4_setOf_88 rfl k318 k440 k317 ks18 k3 hd_X1_failing ⟨(Nat.le_of_ble_eq_true rfl), (Nat.le_of_ble_eq_true rfl)⟩ (Nat.le_of_ble_eq_true rfl) jto rfl rfl ⟨Nat.zero_le _, Nat.zero_le _⟩ (c_X1_failing0 PlaceAt_ps hd4 hO hSl (sb_ca P)) rfl (fun w88 hw88 => ?_)))))))
          obtain ⟨f1, g1, v1, rfl⟩ := hw88
          refine V.iret h hR dX4_setOf_91 ?_
          exact RW_of (by rw [hq, if_neg c24_0, if_pos c24_1])
        refine V.ldflt h 92 dX4_setOf_24 (by decide +kernel) (by show Op.lookupswitch.offset [(0, 28), (1, 52)] _ _ = _; rw [lv_osw c24_0 (by decide)]; rw [lv_osw c24_1 (by decide)]; rfl) rfl ?_
        refine V.aload0 h 93 dX4_setOf_92 rfl (V.gX4 h 1 96 dX4_setOf_93 rfl rfl k201 (ob hob) rfl (V.iload1 h 97 dX4_setOf_96 rfl (V.aload0 h 98 dX4_setOf_97 rfl (V.gX4 h 0 101 dX4_setOf_98 rfl rfl k200 (ob hob) rfl (V.gX2N h 7 104 dX4_setOf_101 rfl rfl k49 (ctP hd4).po rfl (V.callNe (As := [.int _, .int _]) (st := []) h 107 dX4_setOf_104 rfl k314 k441 k313 ks17 k3 hd_X1_greatest ⟨(Nat.le_of_ble_eq_true rfl), (Nat.le_of_ble_eq_true rfl)⟩ (Nat.le_of_ble_eq_true rfl) jto rfl rfl ⟨Nat.zero_le _, Nat.zero_le _⟩ (c_X1_greatest0 PlaceAt_ps hd4 hO hSl (sb_ca P)) rfl (fun w104 hw104 => ?_)))))))
        obtain ⟨f1, g1, v1, rfl⟩ := hw104
        refine V.iret h hR dX4_setOf_107 ?_
        exact RW_of (by rw [hq, if_neg c24_0, if_neg c24_1])
      · refine V.iload3 h 22 dX4_setOf_21 rfl ?_
        refine V.iret h hR dX4_setOf_22 ?_
        first | exact RW_of (by unfold cSet; rw [rng_t c1 c6, if_pos rfl]; exact (cEr_n c18).symm) | exact RW_of (by unfold cSet; rw [rng_t c1 c6, if_pos rfl]; exact (cEr_n (nle c18)).symm)
    · refine V.iconst h 10 dX4_setOf_9 rfl ic1_m1 ?_
      refine V.iret h hR dX4_setOf_10 ?_
      first | exact RW_of (by unfold cSet; rw [rng_f1 c1]; rfl) | exact RW_of (by unfold cSet; rw [rng_f2 c6]; rfl)
/-- what is counted; ss: the states kept, ln: the text's length -/
def cCt (P : Pl) (N : Nat) (st ln what : Int32) : Int32 :=
  if what = 0 then P 0 0
  else if what = 1 then P 3 0
  else if what = 2 then cnt (live P)
  else if what = 3 then cnt (P 6 0)
  else if what = 4 then std P noX 0
  else if what = 5 then nI (nw P noX (P 6 0) (P 7 0) 12)
  else if what = 6 then sm (qSt1 P (grt P noX (P 6 0) (P 7 0))) N
  else if what = 7 then qPwg P
  else if what = 8 then P 14 0
  else if what = 9 then P 15 0
  else if what = 10 then P 16 0
  else if what = 11 then st
  else if what = 12 then ln
  else -1
theorem c_X4_count {w : Wd} {c N : Nat} {P S : Pl} {f g : Nat → Int32} {v x what : Int32} (hob : OB w c x) (hO : POK P) (hN : N = 4096) (hS : w.2 (c + 15) = some (.inr (3, sfl (c + 15) S))) :
    K_X4_count [.ref c, .int what] (ct w (c + 1) (c + 11) P f g v) (RW (cCt P N x (S 1 0) what) w c P) := by
  refine Con.mk [some (.ref c), some (.int what)] (by decide) rfl rfl (Nat.le_of_ble_eq_true rfl) (fun X h hR hnm => ?_)
  have hS' : (ct w (c + 1) (c + 11) P f g v).2 (c + 15) = some (.inr (3, sfl (c + 15) S)) := by
    show (rs (rs w (c + 1) 10 _) (c + 11) 3 _).2 (c + 15) = _
    rw [rs_out (by omega), rs_out (by omega)]
    exact hS
  obtain ⟨q, hq⟩ : ∃ q, q = cCt P N x (S 1 0) what := ⟨_, rfl⟩
  rw [← hq] at hR
  unfold cCt at hq
  refine V.iload1 h 1 dX4_count_0 rfl ?_
  refine V.tcase (off := 67) h (0 : Int32) 68 dX4_count_1 (by decide) (by decide +kernel) rfl (fun c1_0 => ?_) (fun c1_0 => ?_)
  · refine V.aload0 h 69 dX4_count_68 rfl (V.gX4 h 0 72 dX4_count_69 rfl rfl k200 (ob hob) rfl (V.gX2N h 0 75 dX4_count_72 rfl rfl k25 (ctP hd4).po rfl ?_))
    refine V.iret h hR dX4_count_75 ?_
    subst c1_0
    exact RW_of (by rw [hq]; rfl)
  refine V.tcase (off := 75) h (1 : Int32) 76 dX4_count_1 (by decide) (by decide +kernel) rfl (fun c1_1 => ?_) (fun c1_1 => ?_)
  · refine V.aload0 h 77 dX4_count_76 rfl (V.gX4 h 0 80 dX4_count_77 rfl rfl k200 (ob hob) rfl (V.gX2N h 3 83 dX4_count_80 rfl rfl k35 (ctP hd4).po rfl ?_))
    refine V.iret h hR dX4_count_83 ?_
    subst c1_1
    exact RW_of (by rw [hq]; rfl)
  refine V.tcase (off := 83) h (2 : Int32) 84 dX4_count_1 (by decide) (by decide +kernel) rfl (fun c1_2 => ?_) (fun c1_2 => ?_)
  · refine V.aload0 h 85 dX4_count_84 rfl (V.gX4 h 0 88 dX4_count_85 rfl rfl k200 (ob hob) rfl (V.callNf (As := []) (st := []) h 91 dX4_count_88 rfl k285 k434 k284 ks11 k2 hd_X2_pledges ⟨(Nat.le_of_ble_eq_true rfl), (Nat.le_of_ble_eq_true rfl)⟩ (Nat.le_of_ble_eq_true rfl) (ctP hd4).po rfl rfl ⟨Nat.zero_le _, Nat.zero_le _⟩ (c_X2_pledges (ctP hd4)) rfl (V.callSf (As := [.int _]) (st := []) h 94 dX4_count_91 rfl k422 k420 k421 k8 hd_J6_bitCount_0f7a4 ⟨(Nat.le_of_ble_eq_true rfl), (Nat.le_of_ble_eq_true rfl)⟩ (Nat.le_of_ble_eq_true rfl) ⟨Nat.zero_le _, Nat.zero_le _⟩ (c_bitCount hO.1) rfl ?_)))
    refine V.iret h hR dX4_count_94 ?_
    subst c1_2
    exact RW_of (by rw [hq]; rfl)
  refine V.tcase (off := 94) h (3 : Int32) 95 dX4_count_1 (by decide) (by decide +kernel) rfl (fun c1_3 => ?_) (fun c1_3 => ?_)
  · refine V.aload0 h 96 dX4_count_95 rfl (V.gX4 h 0 99 dX4_count_96 rfl rfl k200 (ob hob) rfl (V.gX2N h 6 102 dX4_count_99 rfl rfl k45 (ctP hd4).po rfl (V.callSf (As := [.int _]) (st := []) h 105 dX4_count_102 rfl k422 k420 k421 k8 hd_J6_bitCount_0f7a4 ⟨(Nat.le_of_ble_eq_true rfl), (Nat.le_of_ble_eq_true rfl)⟩ (Nat.le_of_ble_eq_true rfl) ⟨Nat.zero_le _, Nat.zero_le _⟩ (c_bitCount (sb_lo (sb_op P) hO.1)) rfl ?_)))
    refine V.iret h hR dX4_count_105 ?_
    subst c1_3
    exact RW_of (by rw [hq]; rfl)
  refine V.tcase (off := 105) h (4 : Int32) 106 dX4_count_1 (by decide) (by decide +kernel) rfl (fun c1_4 => ?_) (fun c1_4 => ?_)
  · refine V.aload0 h 107 dX4_count_106 rfl (V.gX4 h 1 110 dX4_count_107 rfl rfl k201 (ob hob) rfl (V.callNe (As := []) (st := []) h 113 dX4_count_110 rfl k347 k344 k346 ks23 k3 hd_X1_stand ⟨(Nat.le_of_ble_eq_true rfl), (Nat.le_of_ble_eq_true rfl)⟩ (Nat.le_of_ble_eq_true rfl) jto rfl rfl ⟨Nat.zero_le _, Nat.zero_le _⟩ (c_X1_stand PlaceAt_ps hd4 hO) rfl (fun w110 hw110 => ?_)))
    obtain ⟨f1, g1, v1, rfl⟩ := hw110
    refine V.iret h hR dX4_count_113 ?_
    subst c1_4
    exact RW_of (by rw [hq]; rfl)
  refine V.tcase (off := 113) h (5 : Int32) 114 dX4_count_1 (by decide) (by decide +kernel) rfl (fun c1_5 => ?_) (fun c1_5 => ?_)
  · refine V.aload0 h 115 dX4_count_114 rfl (V.gX4 h 1 118 dX4_count_115 rfl rfl k201 (ob hob) rfl (V.callNe (As := []) (st := []) h 121 dX4_count_118 rfl k462 k459 k461 ks40 k3 hd_X1_waves ⟨(Nat.le_of_ble_eq_true rfl), (Nat.le_of_ble_eq_true rfl)⟩ (Nat.le_of_ble_eq_true rfl) jto rfl rfl ⟨Nat.zero_le _, Nat.zero_le _⟩ (c_X1_waves PlaceAt_ps hd4 hO) rfl (fun w118 hw118 => ?_)))
    obtain ⟨f1, g1, v1, rfl⟩ := hw118
    refine V.iret h hR dX4_count_121 ?_
    subst c1_5
    exact RW_of (by rw [hq]; rfl)
  refine V.tcase (off := 121) h (6 : Int32) 122 dX4_count_1 (by decide) (by decide +kernel) rfl (fun c1_6 => ?_) (fun c1_6 => ?_)
  · refine V.aload0 h 123 dX4_count_122 rfl (V.gX4 h 1 126 dX4_count_123 rfl rfl k201 (ob hob) rfl (V.callNe (As := []) (st := []) h 129 dX4_count_126 rfl k466 k463 k465 ks41 k3 hd_X1_setsThatHold ⟨(Nat.le_of_ble_eq_true rfl), (Nat.le_of_ble_eq_true rfl)⟩ (Nat.le_of_ble_eq_true rfl) jto rfl rfl ⟨Nat.zero_le _, Nat.zero_le _⟩ (c_X1_setsThatHold PlaceAt_ps hd4 hO hN) rfl (fun w126 hw126 => ?_)))
    obtain ⟨f1, g1, v1, rfl⟩ := hw126
    refine V.iret h hR dX4_count_129 ?_
    subst c1_6
    exact RW_of (by rw [hq]; rfl)
  refine V.tcase (off := 129) h (7 : Int32) 130 dX4_count_1 (by decide) (by decide +kernel) rfl (fun c1_7 => ?_) (fun c1_7 => ?_)
  · refine V.aload0 h 131 dX4_count_130 rfl (V.gX4 h 1 134 dX4_count_131 rfl rfl k201 (ob hob) rfl (V.callNe (As := []) (st := []) h 137 dX4_count_134 rfl k470 k467 k469 ks42 k3 hd_X1_projectsWithGoal ⟨(Nat.le_of_ble_eq_true rfl), (Nat.le_of_ble_eq_true rfl)⟩ (Nat.le_of_ble_eq_true rfl) jto rfl rfl ⟨Nat.zero_le _, Nat.zero_le _⟩ (c_X1_projectsWithGoal PlaceAt_ps hd4 hO) rfl (fun w134 hw134 => ?_)))
    obtain ⟨f1, g1, v1, rfl⟩ := hw134
    refine V.iret h hR dX4_count_137 ?_
    subst c1_7
    exact RW_of (by rw [hq]; rfl)
  refine V.tcase (off := 137) h (8 : Int32) 138 dX4_count_1 (by decide) (by decide +kernel) rfl (fun c1_8 => ?_) (fun c1_8 => ?_)
  · refine V.aload0 h 139 dX4_count_138 rfl (V.gX4 h 0 142 dX4_count_139 rfl rfl k200 (ob hob) rfl (V.gX2N h 14 145 dX4_count_142 rfl rfl k76 (ctP hd4).po rfl ?_))
    refine V.iret h hR dX4_count_145 ?_
    subst c1_8
    exact RW_of (by rw [hq]; rfl)
  refine V.tcase (off := 145) h (9 : Int32) 146 dX4_count_1 (by decide) (by decide +kernel) rfl (fun c1_9 => ?_) (fun c1_9 => ?_)
  · refine V.aload0 h 147 dX4_count_146 rfl (V.gX4 h 0 150 dX4_count_147 rfl rfl k200 (ob hob) rfl (V.gX2N h 15 153 dX4_count_150 rfl rfl k80 (ctP hd4).po rfl ?_))
    refine V.iret h hR dX4_count_153 ?_
    subst c1_9
    exact RW_of (by rw [hq]; rfl)
  refine V.tcase (off := 153) h (10 : Int32) 154 dX4_count_1 (by decide) (by decide +kernel) rfl (fun c1_10 => ?_) (fun c1_10 => ?_)
  · refine V.aload0 h 155 dX4_count_154 rfl (V.gX4 h 0 158 dX4_count_155 rfl rfl k200 (ob hob) rfl (V.gX2N h 16 161 dX4_count_158 rfl rfl k83 (ctP hd4).po rfl ?_))
    refine V.iret h hR dX4_count_161 ?_
    subst c1_10
    exact RW_of (by rw [hq]; rfl)
  refine V.tcase (off := 161) h (11 : Int32) 162 dX4_count_1 (by decide) (by decide +kernel) rfl (fun c1_11 => ?_) (fun c1_11 => ?_)
  · refine V.aload0 h 163 dX4_count_162 rfl (V.gX4 h 5 166 dX4_count_163 rfl rfl k205 (ob hob) rfl ?_)
    refine V.iret h hR dX4_count_166 ?_
    subst c1_11
    exact RW_of (by rw [hq]; rfl)
  refine V.tcase (off := 166) h (12 : Int32) 167 dX4_count_1 (by decide) (by decide +kernel) rfl (fun c1_12 => ?_) (fun c1_12 => ?_)
  · refine V.aload0 h 168 dX4_count_167 rfl (V.gX4 h 3 171 dX4_count_168 rfl rfl k203 (ob hob) rfl (V.gX3N h 1 174 dX4_count_171 rfl rfl k166 hS' rfl ?_))
    refine V.iret h hR dX4_count_174 ?_
    subst c1_12
    exact RW_of (by rw [hq]; rfl)
  refine V.tdflt h 175 dX4_count_1 (by have e0 := lv_neT (a := 0) c1_0 (by decide); have e1 := lv_neT (a := 1) c1_1 (by decide); have e2 := lv_neT (a := 2) c1_2 (by decide); have e3 := lv_neT (a := 3) c1_3 (by decide); have e4 := lv_neT (a := 4) c1_4 (by decide); have e5 := lv_neT (a := 5) c1_5 (by decide); have e6 := lv_neT (a := 6) c1_6 (by decide); have e7 := lv_neT (a := 7) c1_7 (by decide); have e8 := lv_neT (a := 8) c1_8 (by decide); have e9 := lv_neT (a := 9) c1_9 (by decide); have e10 := lv_neT (a := 10) c1_10 (by decide); have e11 := lv_neT (a := 11) c1_11 (by decide); have e12 := lv_neT (a := 12) c1_12 (by decide); omega) rfl ?_
  refine V.iconst h 176 dX4_count_175 rfl ic1_m1 ?_
  refine V.iret h hR dX4_count_176 ?_
  exact RW_of (by rw [hq, if_neg c1_0, if_neg c1_1, if_neg c1_2, if_neg c1_3, if_neg c1_4, if_neg c1_5, if_neg c1_6, if_neg c1_7, if_neg c1_8, if_neg c1_9, if_neg c1_10, if_neg c1_11, if_neg c1_12])
