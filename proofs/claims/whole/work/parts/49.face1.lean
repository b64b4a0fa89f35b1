/-! the class: what its face tells -/
def ofl (c : Nat) (x : Int32) : List Value := [.ref (c + 1), .ref (c + 11), .ref (c + 14), .ref (c + 15), .ref (c + 32), .int x, .ref (c + 83)]
def OB (w : Wd) (c : Nat) (x : Int32) : Prop := w.2 c = some (.inr (4, ofl c x))
theorem ob {w : Wd} {c : Nat} {x : Int32} {P : Pl} {f g : Nat → Int32} {v : Int32} (h : OB w c x) : (ct w (c + 1) (c + 11) P f g v).2 c = some (.inr (4, ofl c x)) := by
  show (rs (rs w (c + 1) 10 _) (c + 11) 3 _).2 c = _
  rw [rs_out (by omega), rs_out (by omega)]
  exact h
theorem hd4 {c : Nat} : c + 1 + 10 ≤ c + 11 ∨ c + 11 + 3 ≤ c + 1 := by omega
def RW (r : Int32) (w : Wd) (c : Nat) (P : Pl) : Option Value → Wd → Prop := RE r (CW w (c + 1) (c + 11) P)
theorem RW_of {r s : Int32} {w : Wd} {c : Nat} {P : Pl} {f g : Nat → Int32} {v : Int32} (h : s = r) : RW r w c P (some (.int s)) (ct w (c + 1) (c + 11) P f g v) := by rw [h]; exact ⟨rfl, P, f, g, v, E12.rf, rfl⟩
def cFall (P : Pl) (k : Nat) : Int32 := if wvm P noX (P 6 0) (P 7 0) (fun _ => 0) 12 k = 0 then -4 else wvm P noX (P 6 0) (P 7 0) (fun _ => 0) 12 k
theorem c_X4_fallOf {w : Wd} {c k : Nat} {P : Pl} {f g : Nat → Int32} {v x : Int32} (hob : OB w c x) (hO : POK P) (hk : k < 12) : K_X4_fallOf [.ref c, .int (nI k)] (ct w (c + 1) (c + 11) P f g v) (RW (cFall P k) w c P) := by
  refine Con.mk [some (.ref c), some (.int (nI k)), none] (by decide) rfl rfl (Nat.le_of_ble_eq_true rfl) (fun X h hR hnm => ?_)
  refine V.aload0 h 1 dX4_fallOf_0 rfl (V.gX4 h 1 4 dX4_fallOf_1 rfl rfl k201 (ob hob) rfl (V.iload1 h 5 dX4_fallOf_4 rfl (V.callNe (As := [.int _]) (st := []) h 8 dX4_fallOf_5 rfl k360 k357 k359 ks26 k3 hd_X1_waveOf ⟨(Nat.le_of_ble_eq_true rfl), (Nat.le_of_ble_eq_true rfl)⟩ (Nat.le_of_ble_eq_true rfl) jto rfl rfl ⟨Nat.zero_le _, Nat.zero_le _⟩ (c_X1_waveOf PlaceAt_ps hd4 hO hk) rfl (fun w5 hw5 => ?_))))
  obtain ⟨f1, g1, v1, rfl⟩ := hw5
  refine V.istore2 h 9 dX4_fallOf_8 rfl rfl (V.iload2 h 10 dX4_fallOf_9 rfl ?_)
  refine V.if_ne h 18 13 dX4_fallOf_10 rfl rfl (fun c10 => ?_) (fun c10 => ?_)
  · refine V.iload2 h 19 dX4_fallOf_18 rfl ?_
    refine V.iret h hR dX4_fallOf_19 ?_
    first | exact RW_of (by unfold cFall; rw [if_pos (by simpa using c10)]) | exact RW_of (by unfold cFall; rw [if_neg (by simpa using c10)])
  · refine V.bipush h 15 dX4_fallOf_13 rfl ic2_m4 (V.goto h 19 dX4_fallOf_15 rfl ?_)
    refine V.iret h hR dX4_fallOf_19 ?_
    first | exact RW_of (by unfold cFall; rw [if_pos (by simpa using c10)]) | exact RW_of (by unfold cFall; rw [if_neg (by simpa using c10)])
def cTop (P : Pl) (k : Nat) : Int32 := if Bt (P 7 0) k = true then -2 else std P noX 0 &&& (std P noX (pw (nI k)) ^^^ (-1)) &&& (pw (nI k) ^^^ (-1))
theorem c_X4_toppledBy {w : Wd} {c k : Nat} {P : Pl} {f g : Nat → Int32} {v x : Int32} (hob : OB w c x) (hO : POK P) (hk : k < 12) : K_X4_toppledBy [.ref c, .int (nI k)] (ct w (c + 1) (c + 11) P f g v) (RW (cTop P k) w c P) := by
  refine Con.mk [some (.ref c), some (.int (nI k)), none] (by decide) rfl rfl (Nat.le_of_ble_eq_true rfl) (fun X h hR hnm => ?_)
  cases hb : Bt (P 7 0) k
  · refine V.iconst h 1 dX4_toppledBy_0 rfl ic1_1 (V.iload1 h 2 dX4_toppledBy_1 rfl (V.ishl h 3 dX4_toppledBy_2 rfl (V.istore2 h 4 dX4_toppledBy_3 rfl rfl (V.aload0 h 5 dX4_toppledBy_4 rfl (V.gX4 h 0 8 dX4_toppledBy_5 rfl rfl k200 (ob hob) rfl (V.gX2N h 7 11 dX4_toppledBy_8 rfl rfl k49 (ctP hd4).po rfl (V.iload2 h 12 dX4_toppledBy_11 rfl ?_)))))))
    refine V.iand h 13 dX4_toppledBy_12 rfl ?_
    rw [show P 7 0 &&& (1 : Int32) <<< (nI k &&& 31) = 0 from and_pw0 (by omega) hb]
    refine V.if_eq h 19 16 dX4_toppledBy_13 rfl rfl (fun _ => ?_) (fun q => absurd rfl q)
    refine V.aload0 h 20 dX4_toppledBy_19 rfl (V.gX4 h 1 23 dX4_toppledBy_20 rfl rfl k201 (ob hob) rfl (V.iload2 h 24 dX4_toppledBy_23 rfl (V.callNe (As := [.int _]) (st := []) h 27 dX4_toppledBy_24 rfl k368 k365 k367 ks28 k3 hd_X1_fallenWithout ⟨(Nat.le_of_ble_eq_true rfl), (Nat.le_of_ble_eq_true rfl)⟩ (Nat.le_of_ble_eq_true rfl) jto rfl rfl ⟨Nat.zero_le _, Nat.zero_le _⟩ (c_X1_fallenWithout PlaceAt_ps hd4 hO) rfl (fun w24 hw24 => ?_))))
    obtain ⟨f1, g1, v1, rfl⟩ := hw24
    refine V.iload2 h 28 dX4_toppledBy_27 rfl (V.iconst h 29 dX4_toppledBy_28 rfl ic1_m1 (V.ixor h 30 dX4_toppledBy_29 rfl (V.iand h 31 dX4_toppledBy_30 rfl ?_)))
    refine V.iret h hR dX4_toppledBy_31 ?_
    exact RW_of (by unfold cTop; rw [hb]; rfl)
  · refine V.iconst h 1 dX4_toppledBy_0 rfl ic1_1 (V.iload1 h 2 dX4_toppledBy_1 rfl (V.ishl h 3 dX4_toppledBy_2 rfl (V.istore2 h 4 dX4_toppledBy_3 rfl rfl (V.aload0 h 5 dX4_toppledBy_4 rfl (V.gX4 h 0 8 dX4_toppledBy_5 rfl rfl k200 (ob hob) rfl (V.gX2N h 7 11 dX4_toppledBy_8 rfl rfl k49 (ctP hd4).po rfl (V.iload2 h 12 dX4_toppledBy_11 rfl ?_)))))))
    refine V.iand h 13 dX4_toppledBy_12 rfl ?_
    rw [show P 7 0 &&& (1 : Int32) <<< (nI k &&& 31) = pw (nI k) from and_pw1 (by omega) hb]
    refine V.if_eq h 19 16 dX4_toppledBy_13 rfl rfl (fun q => absurd q (pw_ne (show k < 32 by omega))) (fun _ => ?_)
    refine V.bipush h 18 dX4_toppledBy_16 rfl ic2_m2 ?_
    refine V.iret h hR dX4_toppledBy_18 ?_
    exact RW_of (by unfold cTop; rw [hb]; rfl)
def cEr (P : Pl) (S : Int32) : Int32 := if S &&& (live P ^^^ (-1)) = 0 then (if S &&& P 7 0 = 0 then 0 else -2) else -1
theorem c_X4_errorOfSet {w : Wd} {c : Nat} {P : Pl} {f g : Nat → Int32} {v x S : Int32} (hob : OB w c x) : K_X4_errorOfSet [.ref c, .int S] (ct w (c + 1) (c + 11) P f g v) (RI (cEr P S) (ct w (c + 1) (c + 11) P f g v)) := by
  refine Con.mk [some (.ref c), some (.int S)] (by decide) rfl rfl (Nat.le_of_ble_eq_true rfl) (fun X h hR hnm => ?_)
  refine V.iload1 h 1 dX4_errorOfSet_0 rfl (V.aload0 h 2 dX4_errorOfSet_1 rfl (V.gX4 h 0 5 dX4_errorOfSet_2 rfl rfl k200 (ob hob) rfl (V.callNf (As := []) (st := [.int _]) h 8 dX4_errorOfSet_5 rfl k285 k434 k284 ks11 k2 hd_X2_pledges ⟨(Nat.le_of_ble_eq_true rfl), (Nat.le_of_ble_eq_true rfl)⟩ (Nat.le_of_ble_eq_true rfl) (ctP hd4).po rfl rfl ⟨Nat.zero_le _, Nat.zero_le _⟩ (c_X2_pledges (ctP hd4)) rfl (V.iconst h 9 dX4_errorOfSet_8 rfl ic1_m1 (V.ixor h 10 dX4_errorOfSet_9 rfl (V.iand h 11 dX4_errorOfSet_10 rfl ?_))))))
  refine V.if_eq h 16 14 dX4_errorOfSet_11 rfl rfl (fun c11 => ?_) (fun c11 => ?_)
  · refine V.iload1 h 17 dX4_errorOfSet_16 rfl (V.aload0 h 18 dX4_errorOfSet_17 rfl (V.gX4 h 0 21 dX4_errorOfSet_18 rfl rfl k200 (ob hob) rfl (V.gX2N h 7 24 dX4_errorOfSet_21 rfl rfl k49 (ctP hd4).po rfl (V.iand h 25 dX4_errorOfSet_24 rfl ?_))))
    refine V.if_eq h 33 28 dX4_errorOfSet_25 rfl rfl (fun c25 => ?_) (fun c25 => ?_)
    · refine V.iconst h 34 dX4_errorOfSet_33 rfl ic1_0 ?_
      refine V.iret h hR dX4_errorOfSet_34 ?_
      first | exact RI_r (by unfold cEr; rw [if_neg (by simpa using c11)]) | exact RI_r (by unfold cEr; rw [if_pos (by simpa using c11), if_neg (by simpa using c25)]) | exact RI_r (by unfold cEr; rw [if_pos (by simpa using c11), if_pos (by simpa using c25)])
    · refine V.bipush h 30 dX4_errorOfSet_28 rfl ic2_m2 (V.goto h 34 dX4_errorOfSet_30 rfl ?_)
      refine V.iret h hR dX4_errorOfSet_34 ?_
      first | exact RI_r (by unfold cEr; rw [if_neg (by simpa using c11)]) | exact RI_r (by unfold cEr; rw [if_pos (by simpa using c11), if_neg (by simpa using c25)]) | exact RI_r (by unfold cEr; rw [if_pos (by simpa using c11), if_pos (by simpa using c25)])
  · refine V.iconst h 15 dX4_errorOfSet_14 rfl ic1_m1 ?_
    refine V.iret h hR dX4_errorOfSet_15 ?_
    first | exact RI_r (by unfold cEr; rw [if_neg (by simpa using c11)]) | exact RI_r (by unfold cEr; rw [if_pos (by simpa using c11), if_neg (by simpa using c25)]) | exact RI_r (by unfold cEr; rw [if_pos (by simpa using c11), if_pos (by simpa using c25)])
def cPl (P : Pl) (v what : Int32) : Int32 :=
  if (hpl P v && rng 0 what 9) = true then
    (if what = 0 then P 8 v.toNatClampNeg
     else if what = 1 then P 9 v.toNatClampNeg
     else if what = 2 then P 10 v.toNatClampNeg
     else if what = 3 then P 11 v.toNatClampNeg
     else if what = 4 then P 12 v.toNatClampNeg
     else if what = 5 then bI (Bt (P 7 0) v.toNatClampNeg)
     else if what = 6 then bI (Bt (std P noX 0) v.toNatClampNeg)
     else if what = 7 then cFall P v.toNatClampNeg
     else if what = 8 then P 13 v.toNatClampNeg
     else cTop P v.toNatClampNeg)
  else -1
theorem c_X4_pledgeOf {w : Wd} {c : Nat} {P : Pl} {f g : Nat → Int32} {v x y what : Int32} (hob : OB w c x) (hO : POK P) : K_X4_pledgeOf [.ref c, .int y, .int what] (ct w (c + 1) (c + 11) P f g v) (RW (cPl P y what) w c P) := by
  refine Con.mk [some (.ref c), some (.int y), some (.int what)] (by decide) rfl rfl (Nat.le_of_ble_eq_true rfl) (fun X h hR hnm => ?_)
  by_cases hy : hpl P y = true
  · obtain ⟨k, hk, rfl, -⟩ := hpl_of hy
    have hq : rng 0 what 9 = true → cPl P (nI k) what = (if what = 0 then P 8 k else if what = 1 then P 9 k else if what = 2 then P 10 k else if what = 3 then P 11 k else if what = 4 then P 12 k else if what = 5 then bI (Bt (P 7 0) k) else if what = 6 then bI (Bt (std P noX 0) k) else if what = 7 then cFall P k else if what = 8 then P 13 k else cTop P k) := by
      intro h9
      unfold cPl; rw [hy, h9, nI_tn (by omega)]; rfl
    refine V.aload0 h 1 dX4_pledgeOf_0 rfl (V.gX4 h 0 4 dX4_pledgeOf_1 rfl rfl k200 (ob hob) rfl (V.iload1 h 5 dX4_pledgeOf_4 rfl (V.callNf (As := [.int _]) (st := []) h 8 dX4_pledgeOf_5 rfl k301 k343 k300 ks15 k2 hd_X2_hasPledge ⟨(Nat.le_of_ble_eq_true rfl), (Nat.le_of_ble_eq_true rfl)⟩ (Nat.le_of_ble_eq_true rfl) (ctP hd4).po rfl rfl ⟨Nat.zero_le _, Nat.zero_le _⟩ (c_X2_hasPledge (ctP hd4)) rfl ?_)))
    refine V.bif_eq h 21 11 dX4_pledgeOf_8 rfl rfl (fun q => absurd ((Eq.symm hy).trans q) (by decide)) (fun _ => ?_)
    refine V.iload2 h 12 dX4_pledgeOf_11 rfl ?_
    refine V.if_lt h 21 15 dX4_pledgeOf_12 rfl rfl (fun c12 => ?_) (fun c12 => ?_)
    · refine V.iconst h 22 dX4_pledgeOf_21 rfl ic1_m1 ?_
      refine V.iret h hR dX4_pledgeOf_22 ?_
      first | exact RW_of (by unfold cPl; rw [rng_f1 c12, Bool.and_false]; rfl) | exact RW_of (by unfold cPl; rw [rng_f2 c18, Bool.and_false]; rfl)
    · refine V.iload2 h 16 dX4_pledgeOf_15 rfl (V.bipush h 18 dX4_pledgeOf_16 rfl ic2_9 ?_)
      refine V.icmp_le h 23 21 dX4_pledgeOf_18 rfl rfl (fun c18 => ?_) (fun c18 => ?_)
      · have hq := hq (rng_t c12 c18)
        refine V.iload2 h 24 dX4_pledgeOf_23 rfl ?_
        refine V.tcase (off := 52) h (0 : Int32) 76 dX4_pledgeOf_24 (by decide) (by decide +kernel) rfl (fun c24_0 => ?_) (fun c24_0 => ?_)
        · refine V.aload0 h 77 dX4_pledgeOf_76 rfl (V.gX4 h 0 80 dX4_pledgeOf_77 rfl rfl k200 (ob hob) rfl (V.gX2N h 8 83 dX4_pledgeOf_80 rfl rfl k53 (ctP hd4).po rfl (V.iload1 h 84 dX4_pledgeOf_83 rfl (V.ialdN h 85 dX4_pledgeOf_84 rfl (ctP hd4).pa4 (by omega) (by decide) ?_))))
          refine V.iret h hR dX4_pledgeOf_85 ?_
          exact RW_of (by rw [hq, if_pos c24_0])
        refine V.tcase (off := 62) h (1 : Int32) 86 dX4_pledgeOf_24 (by decide) (by decide +kernel) rfl (fun c24_1 => ?_) (fun c24_1 => ?_)
        · refine V.aload0 h 87 dX4_pledgeOf_86 rfl (V.gX4 h 0 90 dX4_pledgeOf_87 rfl rfl k200 (ob hob) rfl (V.gX2N h 9 93 dX4_pledgeOf_90 rfl rfl k57 (ctP hd4).po rfl (V.iload1 h 94 dX4_pledgeOf_93 rfl (V.ialdN h 95 dX4_pledgeOf_94 rfl (ctP hd4).pa5 (by omega) (by decide) ?_))))
          refine V.iret h hR dX4_pledgeOf_95 ?_
          exact RW_of (by rw [hq, if_neg c24_0, if_pos c24_1])
        refine V.tcase (off := 72) h (2 : Int32) 96 dX4_pledgeOf_24 (by decide) (by decide +kernel) rfl (fun c24_2 => ?_) (fun c24_2 => ?_)
        · refine V.aload0 h 97 dX4_pledgeOf_96 rfl (V.gX4 h 0 100 dX4_pledgeOf_97 rfl rfl k200 (ob hob) rfl (V.gX2N h 10 103 dX4_pledgeOf_100 rfl rfl k61 (ctP hd4).po rfl (V.iload1 h 104 dX4_pledgeOf_103 rfl (V.ialdN h 105 dX4_pledgeOf_104 rfl (ctP hd4).pa6 (by omega) (by decide) ?_))))
          refine V.iret h hR dX4_pledgeOf_105 ?_
          exact RW_of (by rw [hq, if_neg c24_0, if_neg c24_1, if_pos c24_2])
        refine V.tcase (off := 82) h (3 : Int32) 106 dX4_pledgeOf_24 (by decide) (by decide +kernel) rfl (fun c24_3 => ?_) (fun c24_3 => ?_)
        · refine V.aload0 h 107 dX4_pledgeOf_106 rfl (V.gX4 h 0 110 dX4_pledgeOf_107 rfl rfl k200 (ob hob) rfl (V.gX2N h 11 113 dX4_pledgeOf_110 rfl rfl k65 (ctP hd4).po rfl (V.iload1 h 114 dX4_pledgeOf_113 rfl (V.ialdN h 115 dX4_pledgeOf_114 rfl (ctP hd4).pa7 (by omega) (by decide) ?_))))
          refine V.iret h hR dX4_pledgeOf_115 ?_
          exact RW_of (by rw [hq, if_neg c24_0, if_neg c24_1, if_neg c24_2, if_pos c24_3])
        refine V.tcase (off := 92) h (4 : Int32) 116 dX4_pledgeOf_24 (by decide) (by decide +kernel) rfl (fun c24_4 => ?_) (fun c24_4 => ?_)
        · refine V.aload0 h 117 dX4_pledgeOf_116 rfl (V.gX4 h 0 120 dX4_pledgeOf_117 rfl rfl k200 (ob hob) rfl (V.gX2N h 12 123 dX4_pledgeOf_120 rfl rfl k69 (ctP hd4).po rfl (V.iload1 h 124 dX4_pledgeOf_123 rfl (V.ialdN h 125 dX4_pledgeOf_124 rfl (ctP hd4).pa8 (by omega) (by decide) ?_))))
          refine V.iret h hR dX4_pledgeOf_125 ?_
          exact RW_of (by rw [hq, if_neg c24_0, if_neg c24_1, if_neg c24_2, if_neg c24_3, if_pos c24_4])
        refine V.tcase (off := 102) h (5 : Int32) 126 dX4_pledgeOf_24 (by decide) (by decide +kernel) rfl (fun c24_5 => ?_) (fun c24_5 => ?_)
        · refine V.aload0 h 127 dX4_pledgeOf_126 rfl (V.gX4 h 0 130 dX4_pledgeOf_127 rfl rfl k200 (ob hob) rfl (V.gX2N h 7 133 dX4_pledgeOf_130 rfl rfl k49 (ctP hd4).po rfl (V.iload1 h 134 dX4_pledgeOf_133 rfl (V.ishr h 135 dX4_pledgeOf_134 rfl (V.iconst h 136 dX4_pledgeOf_135 rfl ic1_1 (V.iand h 137 dX4_pledgeOf_136 rfl ?_))))))
          rw [tst (P 7 0) (show k < 32 by omega)]
          refine V.iret h hR dX4_pledgeOf_137 ?_
          exact RW_of (by rw [hq, if_neg c24_0, if_neg c24_1, if_neg c24_2, if_neg c24_3, if_neg c24_4, if_pos c24_5])
        refine V.tcase (off := 114) h (6 : Int32) 138 dX4_pledgeOf_24 (by decide) (by decide +kernel) rfl (fun c24_6 => ?_) (fun c24_6 => ?_)
        · refine V.aload0 h 139 dX4_pledgeOf_138 rfl (V.gX4 h 1 142 dX4_pledgeOf_139 rfl rfl k201 (ob hob) rfl (V.callNe (As := []) (st := []) h 145 dX4_pledgeOf_142 rfl k347 k344 k346 ks23 k3 hd_X1_stand ⟨(Nat.le_of_ble_eq_true rfl), (Nat.le_of_ble_eq_true rfl)⟩ (Nat.le_of_ble_eq_true rfl) jto rfl rfl ⟨Nat.zero_le _, Nat.zero_le _⟩ (c_X1_stand PlaceAt_ps hd4 hO) rfl (fun w142 hw142 => ?_)))
          obtain ⟨f1, g1, v1, rfl⟩ := hw142
          refine V.iload1 h 146 dX4_pledgeOf_145 rfl (V.ishr h 147 dX4_pledgeOf_146 rfl (V.iconst h 148 dX4_pledgeOf_147 rfl ic1_1 (V.iand h 149 dX4_pledgeOf_148 rfl ?_)))
          rw [tst _ (show k < 32 by omega)]
          refine V.iret h hR dX4_pledgeOf_149 ?_
          exact RW_of (by rw [hq, if_neg c24_0, if_neg c24_1, if_neg c24_2, if_neg c24_3, if_neg c24_4, if_neg c24_5, if_pos c24_6])
        refine V.tcase (off := 126) h (7 : Int32) 150 dX4_pledgeOf_24 (by decide) (by decide +kernel) rfl (fun c24_7 => ?_) (fun c24_7 => ?_)
        · refine V.aload0 h 151 dX4_pledgeOf_150 rfl (V.iload1 h 152 dX4_pledgeOf_151 rfl (V.callVe (As := [.int _]) (st := []) h 155 dX4_pledgeOf_152 rfl k356 k353 k355 ks25 k1 hd_X4_fallOf ⟨(Nat.le_of_ble_eq_true rfl), (Nat.le_of_ble_eq_true rfl)⟩ (Nat.le_of_ble_eq_true rfl) (ob hob) rfl rfl ⟨Nat.zero_le _, Nat.zero_le _⟩ (c_X4_fallOf hob hO hk) rfl (fun w152 hw152 => ?_)))
          obtain ⟨P1, f1, g1, v1, hE, rfl⟩ := hw152
          refine V.iret h hR dX4_pledgeOf_155 ?_
          rw [show cPl P (nI k) what = cFall P k by rw [hq, if_neg c24_0, if_neg c24_1, if_neg c24_2, if_neg c24_3, if_neg c24_4, if_neg c24_5, if_neg c24_6, if_pos c24_7]]
          exact ⟨rfl, P1, f1, g1, v1, hE, rfl⟩
        refine V.tcase (off := 132) h (8 : Int32) 156 dX4_pledgeOf_24 (by decide) (by decide +kernel) rfl (fun c24_8 => ?_) (fun c24_8 => ?_)
        · refine V.aload0 h 157 dX4_pledgeOf_156 rfl (V.gX4 h 0 160 dX4_pledgeOf_157 rfl rfl k200 (ob hob) rfl (V.gX2N h 13 163 dX4_pledgeOf_160 rfl rfl k72 (ctP hd4).po rfl (V.iload1 h 164 dX4_pledgeOf_163 rfl (V.ialdN h 165 dX4_pledgeOf_164 rfl (ctP hd4).pa9 (by omega) (by decide) ?_))))
          refine V.iret h hR dX4_pledgeOf_165 ?_
          exact RW_of (by rw [hq, if_neg c24_0, if_neg c24_1, if_neg c24_2, if_neg c24_3, if_neg c24_4, if_neg c24_5, if_neg c24_6, if_neg c24_7, if_pos c24_8])
        refine V.tdflt h 166 dX4_pledgeOf_24 (by have e0 := lv_neT (a := 0) c24_0 (by decide); have e1 := lv_neT (a := 1) c24_1 (by decide); have e2 := lv_neT (a := 2) c24_2 (by decide); have e3 := lv_neT (a := 3) c24_3 (by decide); have e4 := lv_neT (a := 4) c24_4 (by decide); have e5 := lv_neT (a := 5) c24_5 (by decide); have e6 := lv_neT (a := 6) c24_6 (by decide); have e7 := lv_neT (a := 7) c24_7 (by decide); have e8 := lv_neT (a := 8) c24_8 (by decide); omega) rfl ?_
        refine V.aload0 h 167 dX4_pledgeOf_166 rfl (V.iload1 h 168 dX4_pledgeOf_167 rfl (V.callVe (As := [.int _]) (st := []) h 171 dX4_pledgeOf_168 rfl k364 k361 k363 ks27 k1 hd_X4_toppledBy ⟨(Nat.le_of_ble_eq_true rfl), (Nat.le_of_ble_eq_true rfl)⟩ (Nat.le_of_ble_eq_true rfl) (ob hob) rfl rfl ⟨Nat.zero_le _, Nat.zero_le _⟩ (c_X4_toppledBy hob hO hk) rfl (fun w168 hw168 => ?_)))
        obtain ⟨P1, f1, g1, v1, hE, rfl⟩ := hw168
        refine V.iret h hR dX4_pledgeOf_171 ?_
        rw [show cPl P (nI k) what = cTop P k by rw [hq, if_neg c24_0, if_neg c24_1, if_neg c24_2, if_neg c24_3, if_neg c24_4, if_neg c24_5, if_neg c24_6, if_neg c24_7, if_neg c24_8]]
        exact ⟨rfl, P1, f1, g1, v1, hE, rfl⟩
      · refine V.iconst h 22 dX4_pledgeOf_21 rfl ic1_m1 ?_
        refine V.iret h hR dX4_pledgeOf_22 ?_
        first | exact RW_of (by unfold cPl; rw [rng_f1 c12, Bool.and_false]; rfl) | exact RW_of (by unfold cPl; rw [rng_f2 c18, Bool.and_false]; rfl)
  · have hy : hpl P y = false := by simpa using hy
    refine V.aload0 h 1 dX4_pledgeOf_0 rfl (V.gX4 h 0 4 dX4_pledgeOf_1 rfl rfl k200 (ob hob) rfl (V.iload1 h 5 dX4_pledgeOf_4 rfl (V.callNf (As := [.int _]) (st := []) h 8 dX4_pledgeOf_5 rfl k301 k343 k300 ks15 k2 hd_X2_hasPledge ⟨(Nat.le_of_ble_eq_true rfl), (Nat.le_of_ble_eq_true rfl)⟩ (Nat.le_of_ble_eq_true rfl) (ctP hd4).po rfl rfl ⟨Nat.zero_le _, Nat.zero_le _⟩ (c_X2_hasPledge (ctP hd4)) rfl ?_)))
    refine V.bif_eq h 21 11 dX4_pledgeOf_8 rfl rfl (fun _ => ?_) (fun q => absurd ((Eq.symm hy).trans q) (by decide))
    refine V.iconst h 22 dX4_pledgeOf_21 rfl ic1_m1 ?_
    refine V.iret h hR dX4_pledgeOf_22 ?_
    exact RW_of (by unfold cPl; rw [hy]; rfl)
def cPr (P : Pl) (m : Nat) (v what : Int32) : Int32 :=
  if (hpj P v && rng 0 what 9) = true then
    (if what = 0 then P 1 v.toNatClampNeg
     else if what = 1 then amt P (forP P v)
     else if what = 2 then amt P (forP P v &&& std P noX 0)
     else if what = 3 then bI (hasG P noX (std P noX 0) v)
     else if what = 4 then bI (Bt (P 2 0) v.toNatClampNeg)
     else if what = 5 then forP P v
     else if what = 6 then forP P v &&& std P noX 0
     else if what = 7 then (if hasG P noX (std P noX 0) v = true then (tpC P v 12).1 else -4)
     else if what = 8 then (if hasG P noX (std P noX 0) v = true then ned P noX v else -4)
     else (if Bt (P 2 0) v.toNatClampNeg = true then -4 else if hasG P noX (std P noX 0) v = true then 0 else nI m))
  else -1
theorem c_X4_projectOf {w : Wd} {c np m : Nat} {P : Pl} {f g : Nat → Int32} {v x y what : Int32} (hob : OB w c x) (hO : POK P) (hn : P 0 0 = nI np) (h4 : np ≤ 4)
    (hm : what = 9 → ∀ j, j < np → y = nI j → Bt (P 2 0) j = false → ∃ G, P 1 j = nI G ∧ G ≤ 999 ∧ (hasG P noX (std P noX 0) (nI j) = false → 1 ≤ m ∧ m ≤ G ∧ (∀ k, 1 ≤ k → k < m → pdo P j (nI k) = false) ∧ ∀ k, m ≤ k → k ≤ G → pdo P j (nI k) = true)) :
    K_X4_projectOf [.ref c, .int y, .int what] (ct w (c + 1) (c + 11) P f g v) (RW (cPr P m y what) w c P) := by
  refine Con.mk [some (.ref c), some (.int y), some (.int what), none] (by decide) rfl rfl (Nat.le_of_ble_eq_true rfl) (fun X h hR hnm => ?_)
  by_cases hy : hpj P y = true
  · obtain ⟨j, hjn, rfl⟩ := rng_pred (n := np) (by omega) (by rw [← hn, ← hpj_rng hn (by omega)]; exact hy)
    have hj : j < 4 := by omega
    have hq : rng 0 what 9 = true → cPr P m (nI j) what = (if what = 0 then P 1 j else if what = 1 then amt P (forP P (nI j)) else if what = 2 then amt P (forP P (nI j) &&& std P noX 0) else if what = 3 then bI (hasG P noX (std P noX 0) (nI j)) else if what = 4 then bI (Bt (P 2 0) j) else if what = 5 then forP P (nI j) else if what = 6 then forP P (nI j) &&& std P noX 0 else if what = 7 then (if hasG P noX (std P noX 0) (nI j) = true then (tpC P (nI j) 12).1 else -4) else if what = 8 then (if hasG P noX (std P noX 0) (nI j) = true then ned P noX (nI j) else -4) else (if Bt (P 2 0) j = true then -4 else if hasG P noX (std P noX 0) (nI j) = true then 0 else nI m)) := by
      intro h9
      unfold cPr; rw [hy, h9, nI_tn (by omega)]; rfl
    refine V.aload0 h 1 dX4_projectOf_0 rfl (V.gX4 h 0 4 dX4_projectOf_1 rfl rfl k200 (ob hob) rfl (V.iload1 h 5 dX4_projectOf_4 rfl (V.callNf (As := [.int _]) (st := []) h 8 dX4_projectOf_5 rfl k273 k374 k272 ks8 k2 hd_X2_hasProject ⟨(Nat.le_of_ble_eq_true rfl), (Nat.le_of_ble_eq_true rfl)⟩ (Nat.le_of_ble_eq_true rfl) (ctP hd4).po rfl rfl ⟨Nat.zero_le _, Nat.zero_le _⟩ (c_X2_hasProject (ctP hd4)) rfl ?_)))
    refine V.bif_eq h 21 11 dX4_projectOf_8 rfl rfl (fun q => absurd ((Eq.symm hy).trans q) (by decide)) (fun _ => ?_)
    refine V.iload2 h 12 dX4_projectOf_11 rfl ?_
    refine V.if_lt h 21 15 dX4_projectOf_12 rfl rfl (fun c12 => ?_) (fun c12 => ?_)
    · refine V.iconst h 22 dX4_projectOf_21 rfl ic1_m1 ?_
      refine V.iret h hR dX4_projectOf_22 ?_
      first | exact RW_of (by unfold cPr; rw [rng_f1 c12, Bool.and_false]; rfl) | exact RW_of (by unfold cPr; rw [rng_f2 c18, Bool.and_false]; rfl)
    · refine V.iload2 h 16 dX4_projectOf_15 rfl (V.bipush h 18 dX4_projectOf_16 rfl ic2_9 ?_)
      refine V.icmp_le h 23 21 dX4_projectOf_18 rfl rfl (fun c18 => ?_) (fun c18 => ?_)
      · have hq := hq (rng_t c12 c18)
        refine V.aload0 h 24 dX4_projectOf_23 rfl (V.gX4 h 0 27 dX4_projectOf_24 rfl rfl k200 (ob hob) rfl (V.iload1 h 28 dX4_projectOf_27 rfl (V.callNf (As := [.int _]) (st := []) h 31 dX4_projectOf_28 rfl k338 k375 k337 ks22 k2 hd_X2_pledgesFor ⟨(Nat.le_of_ble_eq_true rfl), (Nat.le_of_ble_eq_true rfl)⟩ (Nat.le_of_ble_eq_true rfl) (ctP hd4).po rfl rfl ⟨Nat.zero_le _, Nat.zero_le _⟩ (c_X2_pledgesFor (ctP hd4)) rfl (V.istore3 h 32 dX4_projectOf_31 rfl rfl (V.iload2 h 33 dX4_projectOf_32 rfl ?_)))))
        refine V.tcase (off := 51) h (0 : Int32) 84 dX4_projectOf_33 (by decide) (by decide +kernel) rfl (fun c33_0 => ?_) (fun c33_0 => ?_)
        · refine V.aload0 h 85 dX4_projectOf_84 rfl (V.gX4 h 0 88 dX4_projectOf_85 rfl rfl k200 (ob hob) rfl (V.gX2N h 1 91 dX4_projectOf_88 rfl rfl k29 (ctP hd4).po rfl (V.iload1 h 92 dX4_projectOf_91 rfl (V.ialdN h 93 dX4_projectOf_92 rfl (ctP hd4).pa1 (by omega) (by decide) ?_))))
          refine V.iret h hR dX4_projectOf_93 ?_
          exact RW_of (by rw [hq, if_pos c33_0])
        refine V.tcase (off := 61) h (1 : Int32) 94 dX4_projectOf_33 (by decide) (by decide +kernel) rfl (fun c33_1 => ?_) (fun c33_1 => ?_)
        · refine V.aload0 h 95 dX4_projectOf_94 rfl (V.gX4 h 0 98 dX4_projectOf_95 rfl rfl k200 (ob hob) rfl (V.iload3 h 99 dX4_projectOf_98 rfl (V.callNf (As := [.int _]) (st := []) h 102 dX4_projectOf_99 rfl k289 k376 k288 ks12 k2 hd_X2_sum ⟨(Nat.le_of_ble_eq_true rfl), (Nat.le_of_ble_eq_true rfl)⟩ (Nat.le_of_ble_eq_true rfl) (ctP hd4).po rfl rfl ⟨Nat.zero_le _, Nat.zero_le _⟩ (c_X2_sum (ctP hd4)) rfl ?_)))
          refine V.iret h hR dX4_projectOf_102 ?_
          exact RW_of (by rw [hq, if_neg c33_0, if_pos c33_1])
        refine V.tcase (off := 70) h (2 : Int32) 103 dX4_projectOf_33 (by decide) (by decide +kernel) rfl (fun c33_2 => ?_) (fun c33_2 => ?_)
        · refine V.aload0 h 104 dX4_projectOf_103 rfl (V.gX4 h 0 107 dX4_projectOf_104 rfl rfl k200 (ob hob) rfl (V.iload3 h 108 dX4_projectOf_107 rfl (V.aload0 h 109 dX4_projectOf_108 rfl (V.gX4 h 1 112 dX4_projectOf_109 rfl rfl k201 (ob hob) rfl (V.callNe (As := []) (st := [.int _, .ref _]) h 115 dX4_projectOf_112 rfl k347 k344 k346 ks23 k3 hd_X1_stand ⟨(Nat.le_of_ble_eq_true rfl), (Nat.le_of_ble_eq_true rfl)⟩ (Nat.le_of_ble_eq_true rfl) jto rfl rfl ⟨Nat.zero_le _, Nat.zero_le _⟩ (c_X1_stand PlaceAt_ps hd4 hO) rfl (fun w112 hw112 => ?_))))))
          obtain ⟨f1, g1, v1, rfl⟩ := hw112
          refine V.iand h 116 dX4_projectOf_115 rfl (V.callNf (As := [.int _]) (st := []) h 119 dX4_projectOf_116 rfl k289 k376 k288 ks12 k2 hd_X2_sum ⟨(Nat.le_of_ble_eq_true rfl), (Nat.le_of_ble_eq_true rfl)⟩ (Nat.le_of_ble_eq_true rfl) (ctP hd4).po rfl rfl ⟨Nat.zero_le _, Nat.zero_le _⟩ (c_X2_sum (ctP hd4)) rfl ?_)
          refine V.iret h hR dX4_projectOf_119 ?_
          exact RW_of (by rw [hq, if_neg c33_0, if_neg c33_1, if_pos c33_2])
        refine V.tcase (off := 87) h (3 : Int32) 120 dX4_projectOf_33 (by decide) (by decide +kernel) rfl (fun c33_3 => ?_) (fun c33_3 => ?_)
        · refine V.aload0 h 121 dX4_projectOf_120 rfl (V.gX4 h 1 124 dX4_projectOf_121 rfl rfl k201 (ob hob) rfl (V.iload1 h 125 dX4_projectOf_124 rfl (V.callNe (As := [.int _]) (st := []) h 128 dX4_projectOf_125 rfl k380 k377 k379 ks29 k3 hd_X1_hasGoal ⟨(Nat.le_of_ble_eq_true rfl), (Nat.le_of_ble_eq_true rfl)⟩ (Nat.le_of_ble_eq_true rfl) jto rfl rfl ⟨Nat.zero_le _, Nat.zero_le _⟩ (c_X1_hasGoal PlaceAt_ps hd4 hO hj) rfl (fun w125 hw125 => ?_))))
          obtain ⟨f1, g1, v1, rfl⟩ := hw125
          refine V.bif_eq h 135 131 dX4_projectOf_128 rfl rfl (fun c128 => ?_) (fun c128 => ?_)
          · refine V.iconst h 136 dX4_projectOf_135 rfl ic1_0 ?_
            refine V.iret h hR dX4_projectOf_136 ?_
            rw [if_neg c33_0, if_neg c33_1, if_neg c33_2, if_pos c33_3] at hq
            first | exact RW_of (by rw [hq, show hasG P noX (std P noX 0) (nI j) = true from c128]; rfl) | exact RW_of (by rw [hq, show hasG P noX (std P noX 0) (nI j) = false from c128]; rfl)
          · refine V.iconst h 132 dX4_projectOf_131 rfl ic1_1 (V.goto h 136 dX4_projectOf_132 rfl ?_)
            refine V.iret h hR dX4_projectOf_136 ?_
            rw [if_neg c33_0, if_neg c33_1, if_neg c33_2, if_pos c33_3] at hq
            first | exact RW_of (by rw [hq, show hasG P noX (std P noX 0) (nI j) = true from c128]; rfl) | exact RW_of (by rw [hq, show hasG P noX (std P noX 0) (nI j) = false from c128]; rfl)
        refine V.tcase (off := 104) h (4 : Int32) 137 dX4_projectOf_33 (by decide) (by decide +kernel) rfl (fun c33_4 => ?_) (fun c33_4 => ?_)
        · refine V.aload0 h 138 dX4_projectOf_137 rfl (V.gX4 h 0 141 dX4_projectOf_138 rfl rfl k200 (ob hob) rfl (V.gX2N h 2 144 dX4_projectOf_141 rfl rfl k32 (ctP hd4).po rfl (V.iload1 h 145 dX4_projectOf_144 rfl (V.ishr h 146 dX4_projectOf_145 rfl (V.iconst h 147 dX4_projectOf_146 rfl ic1_1 (V.iand h 148 dX4_projectOf_147 rfl ?_))))))
          rw [tst (P 2 0) (show j < 32 by omega)]
          refine V.iret h hR dX4_projectOf_148 ?_
          exact RW_of (by rw [hq, if_neg c33_0, if_neg c33_1, if_neg c33_2, if_neg c33_3, if_pos c33_4])
        refine V.tcase (off := 116) h (5 : Int32) 149 dX4_projectOf_33 (by decide) (by decide +kernel) rfl (fun c33_5 => ?_) (fun c33_5 => ?_)
        · refine V.iload3 h 150 dX4_projectOf_149 rfl ?_
          refine V.iret h hR dX4_projectOf_150 ?_
          exact RW_of (by rw [hq, if_neg c33_0, if_neg c33_1, if_neg c33_2, if_neg c33_3, if_neg c33_4, if_pos c33_5])
        refine V.tcase (off := 118) h (6 : Int32) 151 dX4_projectOf_33 (by decide) (by decide +kernel) rfl (fun c33_6 => ?_) (fun c33_6 => ?_)
        · refine V.iload3 h 152 dX4_projectOf_151 rfl (V.aload0 h 153 dX4_projectOf_152 rfl (V.gX4 h 1 156 dX4_projectOf_153 rfl rfl k201 (ob hob) rfl (V.callNe (As := []) (st := [.int _]) h 159 dX4_projectOf_156 rfl k347 k344 k346 ks23 k3 hd_X1_stand ⟨(Nat.le_of_ble_eq_true rfl), (Nat.le_of_ble_eq_true rfl)⟩ (Nat.le_of_ble_eq_true rfl) jto rfl rfl ⟨Nat.zero_le _, Nat.zero_le _⟩ (c_X1_stand PlaceAt_ps hd4 hO) rfl (fun w156 hw156 => ?_))))
          obtain ⟨f1, g1, v1, rfl⟩ := hw156
          refine V.iand h 160 dX4_projectOf_159 rfl ?_
          refine V.iret h hR dX4_projectOf_160 ?_
          exact RW_of (by rw [hq, if_neg c33_0, if_neg c33_1, if_neg c33_2, if_neg c33_3, if_neg c33_4, if_neg c33_5, if_pos c33_6])
        refine V.tcase (off := 128) h (7 : Int32) 161 dX4_projectOf_33 (by decide) (by decide +kernel) rfl (fun c33_7 => ?_) (fun c33_7 => ?_)
        · refine V.aload0 h 162 dX4_projectOf_161 rfl (V.gX4 h 1 165 dX4_projectOf_162 rfl rfl k201 (ob hob) rfl (V.iload1 h 166 dX4_projectOf_165 rfl (V.callNe (As := [.int _]) (st := []) h 169 dX4_projectOf_166 rfl k380 k377 k379 ks29 k3 hd_X1_hasGoal ⟨(Nat.le_of_ble_eq_true rfl), (Nat.le_of_ble_eq_true rfl)⟩ (Nat.le_of_ble_eq_true rfl) jto rfl rfl ⟨Nat.zero_le _, Nat.zero_le _⟩ (c_X1_hasGoal PlaceAt_ps hd4 hO hj) rfl (fun w166 hw166 => ?_))))
          obtain ⟨f1, g1, v1, rfl⟩ := hw166
          refine V.bif_eq h 183 172 dX4_projectOf_169 rfl rfl (fun c169 => ?_) (fun c169 => ?_)
          · refine V.bipush h 185 dX4_projectOf_183 rfl ic2_m4 ?_
            refine V.iret h hR dX4_projectOf_185 ?_
            rw [if_neg c33_0, if_neg c33_1, if_neg c33_2, if_neg c33_3, if_neg c33_4, if_neg c33_5, if_neg c33_6, if_pos c33_7] at hq
            first | exact RW_of (by rw [hq, if_pos c169]) | exact RW_of (by rw [hq, show hasG P noX (std P noX 0) (nI j) = false from c169]; rfl)
          · refine V.aload0 h 173 dX4_projectOf_172 rfl (V.gX4 h 1 176 dX4_projectOf_173 rfl rfl k201 (ob hob) rfl (V.iload1 h 177 dX4_projectOf_176 rfl (V.callNe (As := [.int _]) (st := []) h 180 dX4_projectOf_177 rfl k390 k387 k389 ks31 k3 hd_X1_tip ⟨(Nat.le_of_ble_eq_true rfl), (Nat.le_of_ble_eq_true rfl)⟩ (Nat.le_of_ble_eq_true rfl) jto rfl rfl ⟨Nat.zero_le _, Nat.zero_le _⟩ (c_X1_tip PlaceAt_ps hd4 hO hj) rfl (fun w177 hw177 => ?_))))
            obtain ⟨f2, g2, v2, rfl⟩ := hw177
            refine V.goto h 185 dX4_projectOf_180 rfl ?_
            refine V.iret h hR dX4_projectOf_185 ?_
            rw [if_neg c33_0, if_neg c33_1, if_neg c33_2, if_neg c33_3, if_neg c33_4, if_neg c33_5, if_neg c33_6, if_pos c33_7] at hq
            first | exact RW_of (by rw [hq, if_pos c169]) | exact RW_of (by rw [hq, show hasG P noX (std P noX 0) (nI j) = false from c169]; rfl)
        refine V.tcase (off := 153) h (8 : Int32) 186 dX4_projectOf_33 (by decide) (by decide +kernel) rfl (fun c33_8 => ?_) (fun c33_8 => ?_)
        · refine V.aload0 h 187 dX4_projectOf_186 rfl (V.gX4 h 1 190 dX4_projectOf_187 rfl rfl k201 (ob hob) rfl (V.iload1 h 191 dX4_projectOf_190 rfl (V.callNe (As := [.int _]) (st := []) h 194 dX4_projectOf_191 rfl k380 k377 k379 ks29 k3 hd_X1_hasGoal ⟨(Nat.le_of_ble_eq_true rfl), (Nat.le_of_ble_eq_true rfl)⟩ (Nat.le_of_ble_eq_true rfl) jto rfl rfl ⟨Nat.zero_le _, Nat.zero_le _⟩ (c_X1_hasGoal PlaceAt_ps hd4 hO hj) rfl (fun w191 hw191 => ?_))))
          obtain ⟨f1, g1, v1, rfl⟩ := hw191
          refine V.bif_eq h 208 197 dX4_projectOf_194 rfl rfl (fun c194 => ?_) (fun c194 => ?_)
          · refine V.bipush h 210 dX4_projectOf_208 rfl ic2_m4 ?_
            refine V.iret h hR dX4_projectOf_210 ?_
            rw [if_neg c33_0, if_neg c33_1, if_neg c33_2, if_neg c33_3, if_neg c33_4, if_neg c33_5, if_neg c33_6, if_neg c33_7, if_pos c33_8] at hq
            first | exact RW_of (by rw [hq, if_pos c194]) | exact RW_of (by rw [hq, show hasG P noX (std P noX 0) (nI j) = false from c194]; rfl)
          · refine V.aload0 h 198 dX4_projectOf_197 rfl (V.gX4 h 1 201 dX4_projectOf_198 rfl rfl k201 (ob hob) rfl (V.iload1 h 202 dX4_projectOf_201 rfl (V.callNe (As := [.int _]) (st := []) h 205 dX4_projectOf_202 rfl k399 k396 k398 ks33 k3 hd_X1_needed ⟨(Nat.le_of_ble_eq_true rfl), (Nat.le_of_ble_eq_true rfl)⟩ (Nat.le_of_ble_eq_true rfl) jto rfl rfl ⟨Nat.zero_le _, Nat.zero_le _⟩ (c_X1_needed PlaceAt_ps hd4 hO hj) rfl (fun w202 hw202 => ?_))))
            obtain ⟨f2, g2, v2, rfl⟩ := hw202
            refine V.goto h 210 dX4_projectOf_205 rfl ?_
            refine V.iret h hR dX4_projectOf_210 ?_
            rw [if_neg c33_0, if_neg c33_1, if_neg c33_2, if_neg c33_3, if_neg c33_4, if_neg c33_5, if_neg c33_6, if_neg c33_7, if_pos c33_8] at hq
            first | exact RW_of (by rw [hq, if_pos c194]) | exact RW_of (by rw [hq, show hasG P noX (std P noX 0) (nI j) = false from c194]; rfl)
        refine V.tdflt h 211 dX4_projectOf_33 (by have e0 := lv_neT (a := 0) c33_0 (by decide); have e1 := lv_neT (a := 1) c33_1 (by decide); have e2 := lv_neT (a := 2) c33_2 (by decide); have e3 := lv_neT (a := 3) c33_3 (by decide); have e4 := lv_neT (a := 4) c33_4 (by decide); have e5 := lv_neT (a := 5) c33_5 (by decide); have e6 := lv_neT (a := 6) c33_6 (by decide); have e7 := lv_neT (a := 7) c33_7 (by decide); have e8 := lv_neT (a := 8) c33_8 (by decide); omega) rfl ?_
        rw [if_neg c33_0, if_neg c33_1, if_neg c33_2, if_neg c33_3, if_neg c33_4, if_neg c33_5, if_neg c33_6, if_neg c33_7, if_neg c33_8] at hq
        refine V.aload0 h 212 dX4_projectOf_211 rfl (V.gX4 h 0 215 dX4_projectOf_212 rfl rfl k200 (ob hob) rfl (V.iload1 h 216 dX4_projectOf_215 rfl (V.callNf (As := [.int _]) (st := []) h 219 dX4_projectOf_216 rfl k293 k400 k292 ks13 k2 hd_X2_isClosed ⟨(Nat.le_of_ble_eq_true rfl), (Nat.le_of_ble_eq_true rfl)⟩ (Nat.le_of_ble_eq_true rfl) (ctP hd4).po rfl rfl ⟨Nat.zero_le _, Nat.zero_le _⟩ (c_X2_isClosed (ctP hd4) (by omega)) rfl ?_)))
        refine V.bif_eq h 227 222 dX4_projectOf_219 rfl rfl (fun c219 => ?_) (fun c219 => ?_)
        · have h9 : what = 9 := by
            obtain ⟨i, hi, e⟩ := rng_nat (n := 9) (by decide) (rng_t c12 c18)
            subst e
            match i, hi with
            | 0, _ => exact absurd rfl c33_0
            | 1, _ => exact absurd rfl c33_1
            | 2, _ => exact absurd rfl c33_2
            | 3, _ => exact absurd rfl c33_3
            | 4, _ => exact absurd rfl c33_4
            | 5, _ => exact absurd rfl c33_5
            | 6, _ => exact absurd rfl c33_6
            | 7, _ => exact absurd rfl c33_7
            | 8, _ => exact absurd rfl c33_8
            | 9, _ => rfl
          obtain ⟨G, hG, h999, hpush⟩ := hm h9 j hjn rfl c219
          refine V.aload0 h 228 dX4_projectOf_227 rfl (V.gX4 h 1 231 dX4_projectOf_228 rfl rfl k201 (ob hob) rfl (V.iload1 h 232 dX4_projectOf_231 rfl (V.callNe (As := [.int _]) (st := []) h 235 dX4_projectOf_232 rfl k404 k401 k403 ks34 k3 hd_X1_push ⟨(Nat.le_of_ble_eq_true rfl), (Nat.le_of_ble_eq_true rfl)⟩ (Nat.le_of_ble_eq_true rfl) jto rfl rfl ⟨Nat.zero_le _, Nat.zero_le _⟩ (c_X1_push hd4 hO hj hG h999 hpush) rfl (fun w232 hw232 => ?_))))
          obtain ⟨P2, f2, g2, v2, hE, rfl⟩ := hw232
          refine V.iret h hR dX4_projectOf_235 ?_
          first | exact RW_of (by rw [hq, if_pos c219]) | (rw [hq, show Bt (P 2 0) j = false from c219]; exact ⟨rfl, P2, f2, g2, v2, hE, rfl⟩)
        · refine V.bipush h 224 dX4_projectOf_222 rfl ic2_m4 (V.goto h 235 dX4_projectOf_224 rfl ?_)
          refine V.iret h hR dX4_projectOf_235 ?_
          first | exact RW_of (by rw [hq, if_pos c219]) | (rw [hq, show Bt (P 2 0) j = false from c219]; exact ⟨rfl, P2, f2, g2, v2, hE, rfl⟩)
      · refine V.iconst h 22 dX4_projectOf_21 rfl ic1_m1 ?_
        refine V.iret h hR dX4_projectOf_22 ?_
        first | exact RW_of (by unfold cPr; rw [rng_f1 c12, Bool.and_false]; rfl) | exact RW_of (by unfold cPr; rw [rng_f2 c18, Bool.and_false]; rfl)
  · have hy : hpj P y = false := by simpa using hy
    refine V.aload0 h 1 dX4_projectOf_0 rfl (V.gX4 h 0 4 dX4_projectOf_1 rfl rfl k200 (ob hob) rfl (V.iload1 h 5 dX4_projectOf_4 rfl (V.callNf (As := [.int _]) (st := []) h 8 dX4_projectOf_5 rfl k273 k374 k272 ks8 k2 hd_X2_hasProject ⟨(Nat.le_of_ble_eq_true rfl), (Nat.le_of_ble_eq_true rfl)⟩ (Nat.le_of_ble_eq_true rfl) (ctP hd4).po rfl rfl ⟨Nat.zero_le _, Nat.zero_le _⟩ (c_X2_hasProject (ctP hd4)) rfl ?_)))
    refine V.bif_eq h 21 11 dX4_projectOf_8 rfl rfl (fun _ => ?_) (fun q => absurd ((Eq.symm hy).trans q) (by decide))
    refine V.iconst h 22 dX4_projectOf_21 rfl ic1_m1 ?_
    refine V.iret h hR dX4_projectOf_22 ?_
    exact RW_of (by unfold cPr; rw [hy]; rfl)
