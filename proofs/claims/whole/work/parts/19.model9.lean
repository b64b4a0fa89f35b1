/-! the reference: orders, counts, history, text -/
def ahd (s : Nat → Int32) (wv : Nat → Int32) (a c : Nat) (ord st : Int32) : Bool :=
  if ord = 0 then (decide (sF s c 3 - sF s a 3 < 0) || (decide (sF s c 3 - sF s a 3 = 0) && decide (sF s a 7 - sF s c 7 < 0)))
  else if ord = 1 then (decide ((if Bt st c = true then 100 else wv c) < (if Bt st a = true then 100 else wv a)) || (decide ((if Bt st a = true then 100 else wv a) = (if Bt st c = true then 100 else wv c)) && decide (nI a < nI c)))
  else (decide (sF s a 2 - sF s c 2 < 0) || (decide (sF s a 2 - sF s c 2 = 0) && (decide (sF s a 1 - sF s c 1 < 0) || (decide (sF s a 1 - sF s c 1 = 0) && decide (sF s a 7 - sF s c 7 < 0)))))
theorem nle0 {x : Int32} (h : ¬ (0 : Int32) ≤ x) : x < 0 := nle h
theorem c_X5_isAhead {M : Pl} {b a c : Nat} {s : Nat → Int32} {ord st : Int32} {w : Wd} (ha : a < 12) (hc : c < 12) : K_X5_isAhead [.ref b, .int (nI a), .int (nI c), .int ord, .int st] (mz w b M s) (RI (bI (ahd s (M 8) a c ord st)) (mz w b M s)) := by
  refine Con.mk [some (.ref b), some (.int (nI a)), some (.int (nI c)), some (.int ord), some (.int st), none, none, none] (by decide) rfl rfl (Nat.le_of_ble_eq_true rfl) (fun X h hR hnm => ?_)
  refine V.aload0 h 1 dX5_isAhead_0 rfl (V.iload1 h 2 dX5_isAhead_1 rfl (V.bipush h 4 dX5_isAhead_2 rfl ic2_7 (V.callVf (As := [.int _, .int _]) (st := []) h 7 dX5_isAhead_4 rfl k648 k645 k647 ks63 k6 hd_X5_of ⟨(Nat.le_of_ble_eq_true rfl), (Nat.le_of_ble_eq_true rfl)⟩ (Nat.le_of_ble_eq_true rfl) zo rfl rfl ⟨Nat.zero_le _, Nat.zero_le _⟩ (c_of 7 rfl (by omega) (by decide)) rfl (V.aload0 h 8 dX5_isAhead_7 rfl (V.iload2 h 9 dX5_isAhead_8 rfl (V.bipush h 11 dX5_isAhead_9 rfl ic2_7 (V.callVf (As := [.int _, .int _]) (st := [.int _]) h 14 dX5_isAhead_11 rfl k648 k645 k647 ks63 k6 hd_X5_of ⟨(Nat.le_of_ble_eq_true rfl), (Nat.le_of_ble_eq_true rfl)⟩ (Nat.le_of_ble_eq_true rfl) zo rfl rfl ⟨Nat.zero_le _, Nat.zero_le _⟩ (c_of 7 rfl (by omega) (by decide)) rfl ?_)))))))
  refine V.isub h 15 dX5_isAhead_14 rfl (V.istore5 h 17 dX5_isAhead_15 rfl rfl (V.iload3 h 18 dX5_isAhead_17 rfl ?_))
  refine V.if_ne h 57 21 dX5_isAhead_18 rfl rfl (fun c18 => ?_) (fun c18 => ?_)
  · have hn0 : ¬ ord = 0 := c18
    refine V.iload3 h 58 dX5_isAhead_57 rfl (V.iconst h 59 dX5_isAhead_58 rfl ic1_1 ?_)
    refine V.icmp_ne h 131 62 dX5_isAhead_59 rfl rfl (fun c59 => ?_) (fun c59 => ?_)
    · have hq : ahd s (M 8) a c ord st = (decide (sF s a 2 - sF s c 2 < 0) || (decide (sF s a 2 - sF s c 2 = 0) && (decide (sF s a 1 - sF s c 1 < 0) || (decide (sF s a 1 - sF s c 1 = 0) && decide (sF s a 7 - sF s c 7 < 0))))) := by unfold ahd; rw [if_neg hn0, if_neg c59]
      refine V.aload0 h 132 dX5_isAhead_131 rfl (V.iload1 h 133 dX5_isAhead_132 rfl (V.iconst h 134 dX5_isAhead_133 rfl ic1_2 (V.callVf (As := [.int _, .int _]) (st := []) h 137 dX5_isAhead_134 rfl k648 k645 k647 ks63 k6 hd_X5_of ⟨(Nat.le_of_ble_eq_true rfl), (Nat.le_of_ble_eq_true rfl)⟩ (Nat.le_of_ble_eq_true rfl) zo rfl rfl ⟨Nat.zero_le _, Nat.zero_le _⟩ (c_of 2 rfl (by omega) (by decide)) rfl (V.aload0 h 138 dX5_isAhead_137 rfl (V.iload2 h 139 dX5_isAhead_138 rfl (V.iconst h 140 dX5_isAhead_139 rfl ic1_2 (V.callVf (As := [.int _, .int _]) (st := [.int _]) h 143 dX5_isAhead_140 rfl k648 k645 k647 ks63 k6 hd_X5_of ⟨(Nat.le_of_ble_eq_true rfl), (Nat.le_of_ble_eq_true rfl)⟩ (Nat.le_of_ble_eq_true rfl) zo rfl rfl ⟨Nat.zero_le _, Nat.zero_le _⟩ (c_of 2 rfl (by omega) (by decide)) rfl ?_)))))))
      refine V.isub h 144 dX5_isAhead_143 rfl (V.istore6 h 146 dX5_isAhead_144 rfl rfl (V.aload0 h 147 dX5_isAhead_146 rfl (V.iload1 h 148 dX5_isAhead_147 rfl (V.iconst h 149 dX5_isAhead_148 rfl ic1_1 (V.callVf (As := [.int _, .int _]) (st := []) h 152 dX5_isAhead_149 rfl k648 k645 k647 ks63 k6 hd_X5_of ⟨(Nat.le_of_ble_eq_true rfl), (Nat.le_of_ble_eq_true rfl)⟩ (Nat.le_of_ble_eq_true rfl) zo rfl rfl ⟨Nat.zero_le _, Nat.zero_le _⟩ (c_of 1 rfl (by omega) (by decide)) rfl (V.aload0 h 153 dX5_isAhead_152 rfl (V.iload2 h 154 dX5_isAhead_153 rfl ?_)))))))
      refine V.iconst h 155 dX5_isAhead_154 rfl ic1_1 (V.callVf (As := [.int _, .int _]) (st := [.int _]) h 158 dX5_isAhead_155 rfl k648 k645 k647 ks63 k6 hd_X5_of ⟨(Nat.le_of_ble_eq_true rfl), (Nat.le_of_ble_eq_true rfl)⟩ (Nat.le_of_ble_eq_true rfl) zo rfl rfl ⟨Nat.zero_le _, Nat.zero_le _⟩ (c_of 1 rfl (by omega) (by decide)) rfl (V.isub h 159 dX5_isAhead_158 rfl (V.istore7 h 161 dX5_isAhead_159 rfl rfl (V.iload6 h 163 dX5_isAhead_161 rfl ?_))))
      refine V.if_lt h 186 166 dX5_isAhead_163 rfl rfl (fun c163 => ?_) (fun c163 => ?_)
      · refine V.iconst h 187 dX5_isAhead_186 rfl ic1_1 (V.goto h 191 dX5_isAhead_187 rfl ?_)
        refine V.zret h hR (by first | exact bI_z _ | rfl) dX5_isAhead_191 ?_
        first | (refine RI_t ?_; rw [hq, decide_eq_true c163, Bool.true_or]; done) | (refine RI_f ?_; rw [hq, decide_eq_false c163, decide_eq_false c168]; rfl; done) | (refine RI_t ?_; rw [hq, decide_eq_true (show sF s a 2 - sF s c 2 = 0 by simpa using c168), decide_eq_true c173]; simp; done) | (refine RI_f ?_; rw [hq, decide_eq_false c163, decide_eq_false c173, decide_eq_false c178]; simp; done) | (refine RI_f ?_; rw [hq, decide_eq_false c163, decide_eq_false c173, decide_eq_false (le_n c183)]; simp; done) | (refine RI_t ?_; rw [hq, decide_eq_true (show sF s a 2 - sF s c 2 = 0 by simpa using c168), decide_eq_true (show sF s a 1 - sF s c 1 = 0 by simpa using c178), decide_eq_true (nle0 c183)]; simp; done)
      · refine V.iload6 h 168 dX5_isAhead_166 rfl ?_
        refine V.if_ne h 190 171 dX5_isAhead_168 rfl rfl (fun c168 => ?_) (fun c168 => ?_)
        · refine V.iconst h 191 dX5_isAhead_190 rfl ic1_0 ?_
          refine V.zret h hR (by first | exact bI_z _ | rfl) dX5_isAhead_191 ?_
          first | (refine RI_t ?_; rw [hq, decide_eq_true c163, Bool.true_or]; done) | (refine RI_f ?_; rw [hq, decide_eq_false c163, decide_eq_false c168]; rfl; done) | (refine RI_t ?_; rw [hq, decide_eq_true (show sF s a 2 - sF s c 2 = 0 by simpa using c168), decide_eq_true c173]; simp; done) | (refine RI_f ?_; rw [hq, decide_eq_false c163, decide_eq_false c173, decide_eq_false c178]; simp; done) | (refine RI_f ?_; rw [hq, decide_eq_false c163, decide_eq_false c173, decide_eq_false (le_n c183)]; simp; done) | (refine RI_t ?_; rw [hq, decide_eq_true (show sF s a 2 - sF s c 2 = 0 by simpa using c168), decide_eq_true (show sF s a 1 - sF s c 1 = 0 by simpa using c178), decide_eq_true (nle0 c183)]; simp; done)
        · refine V.iload7 h 173 dX5_isAhead_171 rfl ?_
          refine V.if_lt h 186 176 dX5_isAhead_173 rfl rfl (fun c173 => ?_) (fun c173 => ?_)
          · refine V.iconst h 187 dX5_isAhead_186 rfl ic1_1 (V.goto h 191 dX5_isAhead_187 rfl ?_)
            refine V.zret h hR (by first | exact bI_z _ | rfl) dX5_isAhead_191 ?_
            first | (refine RI_t ?_; rw [hq, decide_eq_true c163, Bool.true_or]; done) | (refine RI_f ?_; rw [hq, decide_eq_false c163, decide_eq_false c168]; rfl; done) | (refine RI_t ?_; rw [hq, decide_eq_true (show sF s a 2 - sF s c 2 = 0 by simpa using c168), decide_eq_true c173]; simp; done) | (refine RI_f ?_; rw [hq, decide_eq_false c163, decide_eq_false c173, decide_eq_false c178]; simp; done) | (refine RI_f ?_; rw [hq, decide_eq_false c163, decide_eq_false c173, decide_eq_false (le_n c183)]; simp; done) | (refine RI_t ?_; rw [hq, decide_eq_true (show sF s a 2 - sF s c 2 = 0 by simpa using c168), decide_eq_true (show sF s a 1 - sF s c 1 = 0 by simpa using c178), decide_eq_true (nle0 c183)]; simp; done)
          · refine V.iload7 h 178 dX5_isAhead_176 rfl ?_
            refine V.if_ne h 190 181 dX5_isAhead_178 rfl rfl (fun c178 => ?_) (fun c178 => ?_)
            · refine V.iconst h 191 dX5_isAhead_190 rfl ic1_0 ?_
              refine V.zret h hR (by first | exact bI_z _ | rfl) dX5_isAhead_191 ?_
              first | (refine RI_t ?_; rw [hq, decide_eq_true c163, Bool.true_or]; done) | (refine RI_f ?_; rw [hq, decide_eq_false c163, decide_eq_false c168]; rfl; done) | (refine RI_t ?_; rw [hq, decide_eq_true (show sF s a 2 - sF s c 2 = 0 by simpa using c168), decide_eq_true c173]; simp; done) | (refine RI_f ?_; rw [hq, decide_eq_false c163, decide_eq_false c173, decide_eq_false c178]; simp; done) | (refine RI_f ?_; rw [hq, decide_eq_false c163, decide_eq_false c173, decide_eq_false (le_n c183)]; simp; done) | (refine RI_t ?_; rw [hq, decide_eq_true (show sF s a 2 - sF s c 2 = 0 by simpa using c168), decide_eq_true (show sF s a 1 - sF s c 1 = 0 by simpa using c178), decide_eq_true (nle0 c183)]; simp; done)
            · refine V.iload5 h 183 dX5_isAhead_181 rfl ?_
              refine V.if_ge h 190 186 dX5_isAhead_183 rfl rfl (fun c183 => ?_) (fun c183 => ?_)
              · refine V.iconst h 191 dX5_isAhead_190 rfl ic1_0 ?_
                refine V.zret h hR (by first | exact bI_z _ | rfl) dX5_isAhead_191 ?_
                first | (refine RI_t ?_; rw [hq, decide_eq_true c163, Bool.true_or]; done) | (refine RI_f ?_; rw [hq, decide_eq_false c163, decide_eq_false c168]; rfl; done) | (refine RI_t ?_; rw [hq, decide_eq_true (show sF s a 2 - sF s c 2 = 0 by simpa using c168), decide_eq_true c173]; simp; done) | (refine RI_f ?_; rw [hq, decide_eq_false c163, decide_eq_false c173, decide_eq_false c178]; simp; done) | (refine RI_f ?_; rw [hq, decide_eq_false c163, decide_eq_false c173, decide_eq_false (le_n c183)]; simp; done) | (refine RI_t ?_; rw [hq, decide_eq_true (show sF s a 2 - sF s c 2 = 0 by simpa using c168), decide_eq_true (show sF s a 1 - sF s c 1 = 0 by simpa using c178), decide_eq_true (nle0 c183)]; simp; done)
              · refine V.iconst h 187 dX5_isAhead_186 rfl ic1_1 (V.goto h 191 dX5_isAhead_187 rfl ?_)
                refine V.zret h hR (by first | exact bI_z _ | rfl) dX5_isAhead_191 ?_
                first | (refine RI_t ?_; rw [hq, decide_eq_true c163, Bool.true_or]; done) | (refine RI_f ?_; rw [hq, decide_eq_false c163, decide_eq_false c168]; rfl; done) | (refine RI_t ?_; rw [hq, decide_eq_true (show sF s a 2 - sF s c 2 = 0 by simpa using c168), decide_eq_true c173]; simp; done) | (refine RI_f ?_; rw [hq, decide_eq_false c163, decide_eq_false c173, decide_eq_false c178]; simp; done) | (refine RI_f ?_; rw [hq, decide_eq_false c163, decide_eq_false c173, decide_eq_false (le_n c183)]; simp; done) | (refine RI_t ?_; rw [hq, decide_eq_true (show sF s a 2 - sF s c 2 = 0 by simpa using c168), decide_eq_true (show sF s a 1 - sF s c 1 = 0 by simpa using c178), decide_eq_true (nle0 c183)]; simp; done)
    · have hq : ahd s (M 8) a c ord st = (decide ((if Bt st c = true then 100 else M 8 c) < (if Bt st a = true then 100 else M 8 a)) || (decide ((if Bt st a = true then 100 else M 8 a) = (if Bt st c = true then 100 else M 8 c)) && decide (nI a < nI c))) := by unfold ahd; rw [if_neg hn0, if_pos (by simpa using c59)]
      refine V.iload4 h 64 dX5_isAhead_62 rfl (V.iload1 h 65 dX5_isAhead_64 rfl (V.callSf (As := [.int _, .int _]) (st := []) h 68 dX5_isAhead_65 rfl k663 k661 k662 k6 hd_X5_has ⟨(Nat.le_of_ble_eq_true rfl), (Nat.le_of_ble_eq_true rfl)⟩ (Nat.le_of_ble_eq_true rfl) ⟨Nat.zero_le _, Nat.zero_le _⟩ (c_X5_has (by omega)) rfl ?_))
      refine V.bif_eq h 76 71 dX5_isAhead_68 rfl rfl (fun c68 => ?_) (fun c68 => ?_)
      · refine V.aload0 h 77 dX5_isAhead_76 rfl (V.gX5 h 8 80 dX5_isAhead_77 rfl rfl k552 zo rfl (V.iload1 h 81 dX5_isAhead_80 rfl (V.ialdN h 82 dX5_isAhead_81 rfl za5 (by omega) (by decide) ?_)))
        rw [show M 8 a = (if Bt st a = true then 100 else M 8 a) by rw [c68]; rfl]
        generalize hp : (if Bt st a = true then 100 else M 8 a) = pa at hq ⊢
        refine V.istore6 h 84 dX5_isAhead_82 rfl rfl (V.iload4 h 86 dX5_isAhead_84 rfl (V.iload2 h 87 dX5_isAhead_86 rfl (V.callSf (As := [.int _, .int _]) (st := []) h 90 dX5_isAhead_87 rfl k663 k661 k662 k6 hd_X5_has ⟨(Nat.le_of_ble_eq_true rfl), (Nat.le_of_ble_eq_true rfl)⟩ (Nat.le_of_ble_eq_true rfl) ⟨Nat.zero_le _, Nat.zero_le _⟩ (c_X5_has (by omega)) rfl ?_)))
        refine V.bif_eq h 98 93 dX5_isAhead_90 rfl rfl (fun c90 => ?_) (fun c90 => ?_)
        · refine V.aload0 h 99 dX5_isAhead_98 rfl (V.gX5 h 8 102 dX5_isAhead_99 rfl rfl k552 zo rfl (V.iload2 h 103 dX5_isAhead_102 rfl (V.ialdN h 104 dX5_isAhead_103 rfl za5 (by omega) (by decide) ?_)))
          rw [show M 8 c = (if Bt st c = true then 100 else M 8 c) by rw [c90]; rfl]
          generalize hp2 : (if Bt st c = true then 100 else M 8 c) = pc2 at hq ⊢
          refine V.istore7 h 106 dX5_isAhead_104 rfl rfl (V.iload6 h 108 dX5_isAhead_106 rfl (V.iload7 h 110 dX5_isAhead_108 rfl ?_))
          refine V.icmp_gt h 125 113 dX5_isAhead_110 rfl rfl (fun c110 => ?_) (fun c110 => ?_)
          · refine V.iconst h 126 dX5_isAhead_125 rfl ic1_1 (V.goto h 130 dX5_isAhead_126 rfl ?_)
            refine V.zret h hR (by first | exact bI_z _ | rfl) dX5_isAhead_130 ?_
            first | (refine RI_t ?_; rw [hq, decide_eq_true c110, Bool.true_or]; done) | (refine RI_f ?_; rw [hq, decide_eq_false c110, decide_eq_false c117]; rfl; done) | (refine RI_f ?_; rw [hq, decide_eq_false c110, decide_eq_false (le_n c122), Bool.and_false]; rfl; done) | (refine RI_t ?_; rw [hq, decide_eq_true (show pa = pc2 by simpa using c117), decide_eq_true (nle c122)]; simp; done)
          · refine V.iload6 h 115 dX5_isAhead_113 rfl (V.iload7 h 117 dX5_isAhead_115 rfl ?_)
            refine V.icmp_ne h 129 120 dX5_isAhead_117 rfl rfl (fun c117 => ?_) (fun c117 => ?_)
            · refine V.iconst h 130 dX5_isAhead_129 rfl ic1_0 ?_
              refine V.zret h hR (by first | exact bI_z _ | rfl) dX5_isAhead_130 ?_
              first | (refine RI_t ?_; rw [hq, decide_eq_true c110, Bool.true_or]; done) | (refine RI_f ?_; rw [hq, decide_eq_false c110, decide_eq_false c117]; rfl; done) | (refine RI_f ?_; rw [hq, decide_eq_false c110, decide_eq_false (le_n c122), Bool.and_false]; rfl; done) | (refine RI_t ?_; rw [hq, decide_eq_true (show pa = pc2 by simpa using c117), decide_eq_true (nle c122)]; simp; done)
            · refine V.iload1 h 121 dX5_isAhead_120 rfl (V.iload2 h 122 dX5_isAhead_121 rfl ?_)
              refine V.icmp_ge h 129 125 dX5_isAhead_122 rfl rfl (fun c122 => ?_) (fun c122 => ?_)
              · refine V.iconst h 130 dX5_isAhead_129 rfl ic1_0 ?_
                refine V.zret h hR (by first | exact bI_z _ | rfl) dX5_isAhead_130 ?_
                first | (refine RI_t ?_; rw [hq, decide_eq_true c110, Bool.true_or]; done) | (refine RI_f ?_; rw [hq, decide_eq_false c110, decide_eq_false c117]; rfl; done) | (refine RI_f ?_; rw [hq, decide_eq_false c110, decide_eq_false (le_n c122), Bool.and_false]; rfl; done) | (refine RI_t ?_; rw [hq, decide_eq_true (show pa = pc2 by simpa using c117), decide_eq_true (nle c122)]; simp; done)
              · refine V.iconst h 126 dX5_isAhead_125 rfl ic1_1 (V.goto h 130 dX5_isAhead_126 rfl ?_)
                refine V.zret h hR (by first | exact bI_z _ | rfl) dX5_isAhead_130 ?_
                first | (refine RI_t ?_; rw [hq, decide_eq_true c110, Bool.true_or]; done) | (refine RI_f ?_; rw [hq, decide_eq_false c110, decide_eq_false c117]; rfl; done) | (refine RI_f ?_; rw [hq, decide_eq_false c110, decide_eq_false (le_n c122), Bool.and_false]; rfl; done) | (refine RI_t ?_; rw [hq, decide_eq_true (show pa = pc2 by simpa using c117), decide_eq_true (nle c122)]; simp; done)
        · refine V.bipush h 95 dX5_isAhead_93 rfl ic2_100 ?_
          rw [show (100 : Int32) = (if Bt st c = true then 100 else M 8 c) by rw [c90]; rfl]
          refine V.goto h 104 dX5_isAhead_95 rfl ?_
          generalize hp2 : (if Bt st c = true then 100 else M 8 c) = pc2 at hq ⊢
          refine V.istore7 h 106 dX5_isAhead_104 rfl rfl (V.iload6 h 108 dX5_isAhead_106 rfl (V.iload7 h 110 dX5_isAhead_108 rfl ?_))
          refine V.icmp_gt h 125 113 dX5_isAhead_110 rfl rfl (fun c110 => ?_) (fun c110 => ?_)
          · refine V.iconst h 126 dX5_isAhead_125 rfl ic1_1 (V.goto h 130 dX5_isAhead_126 rfl ?_)
            refine V.zret h hR (by first | exact bI_z _ | rfl) dX5_isAhead_130 ?_
            first | (refine RI_t ?_; rw [hq, decide_eq_true c110, Bool.true_or]; done) | (refine RI_f ?_; rw [hq, decide_eq_false c110, decide_eq_false c117]; rfl; done) | (refine RI_f ?_; rw [hq, decide_eq_false c110, decide_eq_false (le_n c122), Bool.and_false]; rfl; done) | (refine RI_t ?_; rw [hq, decide_eq_true (show pa = pc2 by simpa using c117), decide_eq_true (nle c122)]; simp; done)
          · refine V.iload6 h 115 dX5_isAhead_113 rfl (V.iload7 h 117 dX5_isAhead_115 rfl ?_)
            refine V.icmp_ne h 129 120 dX5_isAhead_117 rfl rfl (fun c117 => ?_) (fun c117 => ?_)
            · refine V.iconst h 130 dX5_isAhead_129 rfl ic1_0 ?_
              refine V.zret h hR (by first | exact bI_z _ | rfl) dX5_isAhead_130 ?_
              first | (refine RI_t ?_; rw [hq, decide_eq_true c110, Bool.true_or]; done) | (refine RI_f ?_; rw [hq, decide_eq_false c110, decide_eq_false c117]; rfl; done) | (refine RI_f ?_; rw [hq, decide_eq_false c110, decide_eq_false (le_n c122), Bool.and_false]; rfl; done) | (refine RI_t ?_; rw [hq, decide_eq_true (show pa = pc2 by simpa using c117), decide_eq_true (nle c122)]; simp; done)
            · refine V.iload1 h 121 dX5_isAhead_120 rfl (V.iload2 h 122 dX5_isAhead_121 rfl ?_)
              refine V.icmp_ge h 129 125 dX5_isAhead_122 rfl rfl (fun c122 => ?_) (fun c122 => ?_)
              · refine V.iconst h 130 dX5_isAhead_129 rfl ic1_0 ?_
                refine V.zret h hR (by first | exact bI_z _ | rfl) dX5_isAhead_130 ?_
                first | (refine RI_t ?_; rw [hq, decide_eq_true c110, Bool.true_or]; done) | (refine RI_f ?_; rw [hq, decide_eq_false c110, decide_eq_false c117]; rfl; done) | (refine RI_f ?_; rw [hq, decide_eq_false c110, decide_eq_false (le_n c122), Bool.and_false]; rfl; done) | (refine RI_t ?_; rw [hq, decide_eq_true (show pa = pc2 by simpa using c117), decide_eq_true (nle c122)]; simp; done)
              · refine V.iconst h 126 dX5_isAhead_125 rfl ic1_1 (V.goto h 130 dX5_isAhead_126 rfl ?_)
                refine V.zret h hR (by first | exact bI_z _ | rfl) dX5_isAhead_130 ?_
                first | (refine RI_t ?_; rw [hq, decide_eq_true c110, Bool.true_or]; done) | (refine RI_f ?_; rw [hq, decide_eq_false c110, decide_eq_false c117]; rfl; done) | (refine RI_f ?_; rw [hq, decide_eq_false c110, decide_eq_false (le_n c122), Bool.and_false]; rfl; done) | (refine RI_t ?_; rw [hq, decide_eq_true (show pa = pc2 by simpa using c117), decide_eq_true (nle c122)]; simp; done)
      · refine V.bipush h 73 dX5_isAhead_71 rfl ic2_100 ?_
        rw [show (100 : Int32) = (if Bt st a = true then 100 else M 8 a) by rw [c68]; rfl]
        refine V.goto h 82 dX5_isAhead_73 rfl ?_
        generalize hp : (if Bt st a = true then 100 else M 8 a) = pa at hq ⊢
        refine V.istore6 h 84 dX5_isAhead_82 rfl rfl (V.iload4 h 86 dX5_isAhead_84 rfl (V.iload2 h 87 dX5_isAhead_86 rfl (V.callSf (As := [.int _, .int _]) (st := []) h 90 dX5_isAhead_87 rfl k663 k661 k662 k6 hd_X5_has ⟨(Nat.le_of_ble_eq_true rfl), (Nat.le_of_ble_eq_true rfl)⟩ (Nat.le_of_ble_eq_true rfl) ⟨Nat.zero_le _, Nat.zero_le _⟩ (c_X5_has (by omega)) rfl ?_)))
        refine V.bif_eq h 98 93 dX5_isAhead_90 rfl rfl (fun c90 => ?_) (fun c90 => ?_)
        · refine V.aload0 h 99 dX5_isAhead_98 rfl (V.gX5 h 8 102 dX5_isAhead_99 rfl rfl k552 zo rfl (V.iload2 h 103 dX5_isAhead_102 rfl (V.ialdN h 104 dX5_isAhead_103 rfl za5 (by omega) (by decide) ?_)))
          rw [show M 8 c = (if Bt st c = true then 100 else M 8 c) by rw [c90]; rfl]
          generalize hp2 : (if Bt st c = true then 100 else M 8 c) = pc2 at hq ⊢
          refine V.istore7 h 106 dX5_isAhead_104 rfl rfl (V.iload6 h 108 dX5_isAhead_106 rfl (V.iload7 h 110 dX5_isAhead_108 rfl ?_))
          refine V.icmp_gt h 125 113 dX5_isAhead_110 rfl rfl (fun c110 => ?_) (fun c110 => ?_)
          · refine V.iconst h 126 dX5_isAhead_125 rfl ic1_1 (V.goto h 130 dX5_isAhead_126 rfl ?_)
            refine V.zret h hR (by first | exact bI_z _ | rfl) dX5_isAhead_130 ?_
            first | (refine RI_t ?_; rw [hq, decide_eq_true c110, Bool.true_or]; done) | (refine RI_f ?_; rw [hq, decide_eq_false c110, decide_eq_false c117]; rfl; done) | (refine RI_f ?_; rw [hq, decide_eq_false c110, decide_eq_false (le_n c122), Bool.and_false]; rfl; done) | (refine RI_t ?_; rw [hq, decide_eq_true (show pa = pc2 by simpa using c117), decide_eq_true (nle c122)]; simp; done)
          · refine V.iload6 h 115 dX5_isAhead_113 rfl (V.iload7 h 117 dX5_isAhead_115 rfl ?_)
            refine V.icmp_ne h 129 120 dX5_isAhead_117 rfl rfl (fun c117 => ?_) (fun c117 => ?_)
            · refine V.iconst h 130 dX5_isAhead_129 rfl ic1_0 ?_
              refine V.zret h hR (by first | exact bI_z _ | rfl) dX5_isAhead_130 ?_
              first | (refine RI_t ?_; rw [hq, decide_eq_true c110, Bool.true_or]; done) | (refine RI_f ?_; rw [hq, decide_eq_false c110, decide_eq_false c117]; rfl; done) | (refine RI_f ?_; rw [hq, decide_eq_false c110, decide_eq_false (le_n c122), Bool.and_false]; rfl; done) | (refine RI_t ?_; rw [hq, decide_eq_true (show pa = pc2 by simpa using c117), decide_eq_true (nle c122)]; simp; done)
            · refine V.iload1 h 121 dX5_isAhead_120 rfl (V.iload2 h 122 dX5_isAhead_121 rfl ?_)
              refine V.icmp_ge h 129 125 dX5_isAhead_122 rfl rfl (fun c122 => ?_) (fun c122 => ?_)
              · refine V.iconst h 130 dX5_isAhead_129 rfl ic1_0 ?_
                refine V.zret h hR (by first | exact bI_z _ | rfl) dX5_isAhead_130 ?_
                first | (refine RI_t ?_; rw [hq, decide_eq_true c110, Bool.true_or]; done) | (refine RI_f ?_; rw [hq, decide_eq_false c110, decide_eq_false c117]; rfl; done) | (refine RI_f ?_; rw [hq, decide_eq_false c110, decide_eq_false (le_n c122), Bool.and_false]; rfl; done) | (refine RI_t ?_; rw [hq, decide_eq_true (show pa = pc2 by simpa using c117), decide_eq_true (nle c122)]; simp; done)
              · refine V.iconst h 126 dX5_isAhead_125 rfl ic1_1 (V.goto h 130 dX5_isAhead_126 rfl ?_)
                refine V.zret h hR (by first | exact bI_z _ | rfl) dX5_isAhead_130 ?_
                first | (refine RI_t ?_; rw [hq, decide_eq_true c110, Bool.true_or]; done) | (refine RI_f ?_; rw [hq, decide_eq_false c110, decide_eq_false c117]; rfl; done) | (refine RI_f ?_; rw [hq, decide_eq_false c110, decide_eq_false (le_n c122), Bool.and_false]; rfl; done) | (refine RI_t ?_; rw [hq, decide_eq_true (show pa = pc2 by simpa using c117), decide_eq_true (nle c122)]; simp; done)
        · refine V.bipush h 95 dX5_isAhead_93 rfl ic2_100 ?_
          rw [show (100 : Int32) = (if Bt st c = true then 100 else M 8 c) by rw [c90]; rfl]
          refine V.goto h 104 dX5_isAhead_95 rfl ?_
          generalize hp2 : (if Bt st c = true then 100 else M 8 c) = pc2 at hq ⊢
          refine V.istore7 h 106 dX5_isAhead_104 rfl rfl (V.iload6 h 108 dX5_isAhead_106 rfl (V.iload7 h 110 dX5_isAhead_108 rfl ?_))
          refine V.icmp_gt h 125 113 dX5_isAhead_110 rfl rfl (fun c110 => ?_) (fun c110 => ?_)
          · refine V.iconst h 126 dX5_isAhead_125 rfl ic1_1 (V.goto h 130 dX5_isAhead_126 rfl ?_)
            refine V.zret h hR (by first | exact bI_z _ | rfl) dX5_isAhead_130 ?_
            first | (refine RI_t ?_; rw [hq, decide_eq_true c110, Bool.true_or]; done) | (refine RI_f ?_; rw [hq, decide_eq_false c110, decide_eq_false c117]; rfl; done) | (refine RI_f ?_; rw [hq, decide_eq_false c110, decide_eq_false (le_n c122), Bool.and_false]; rfl; done) | (refine RI_t ?_; rw [hq, decide_eq_true (show pa = pc2 by simpa using c117), decide_eq_true (nle c122)]; simp; done)
          · refine V.iload6 h 115 dX5_isAhead_113 rfl (V.iload7 h 117 dX5_isAhead_115 rfl ?_)
            refine V.icmp_ne h 129 120 dX5_isAhead_117 rfl rfl (fun c117 => ?_) (fun c117 => ?_)
            · refine V.iconst h 130 dX5_isAhead_129 rfl ic1_0 ?_
              refine V.zret h hR (by first | exact bI_z _ | rfl) dX5_isAhead_130 ?_
              first | (refine RI_t ?_; rw [hq, decide_eq_true c110, Bool.true_or]; done) | (refine RI_f ?_; rw [hq, decide_eq_false c110, decide_eq_false c117]; rfl; done) | (refine RI_f ?_; rw [hq, decide_eq_false c110, decide_eq_false (le_n c122), Bool.and_false]; rfl; done) | (refine RI_t ?_; rw [hq, decide_eq_true (show pa = pc2 by simpa using c117), decide_eq_true (nle c122)]; simp; done)
            · refine V.iload1 h 121 dX5_isAhead_120 rfl (V.iload2 h 122 dX5_isAhead_121 rfl ?_)
              refine V.icmp_ge h 129 125 dX5_isAhead_122 rfl rfl (fun c122 => ?_) (fun c122 => ?_)
              · refine V.iconst h 130 dX5_isAhead_129 rfl ic1_0 ?_
                refine V.zret h hR (by first | exact bI_z _ | rfl) dX5_isAhead_130 ?_
                first | (refine RI_t ?_; rw [hq, decide_eq_true c110, Bool.true_or]; done) | (refine RI_f ?_; rw [hq, decide_eq_false c110, decide_eq_false c117]; rfl; done) | (refine RI_f ?_; rw [hq, decide_eq_false c110, decide_eq_false (le_n c122), Bool.and_false]; rfl; done) | (refine RI_t ?_; rw [hq, decide_eq_true (show pa = pc2 by simpa using c117), decide_eq_true (nle c122)]; simp; done)
              · refine V.iconst h 126 dX5_isAhead_125 rfl ic1_1 (V.goto h 130 dX5_isAhead_126 rfl ?_)
                refine V.zret h hR (by first | exact bI_z _ | rfl) dX5_isAhead_130 ?_
                first | (refine RI_t ?_; rw [hq, decide_eq_true c110, Bool.true_or]; done) | (refine RI_f ?_; rw [hq, decide_eq_false c110, decide_eq_false c117]; rfl; done) | (refine RI_f ?_; rw [hq, decide_eq_false c110, decide_eq_false (le_n c122), Bool.and_false]; rfl; done) | (refine RI_t ?_; rw [hq, decide_eq_true (show pa = pc2 by simpa using c117), decide_eq_true (nle c122)]; simp; done)
  · have h0 : ord = 0 := by simpa using c18
    have hq : ahd s (M 8) a c ord st = (decide (sF s c 3 - sF s a 3 < 0) || (decide (sF s c 3 - sF s a 3 = 0) && decide (sF s a 7 - sF s c 7 < 0))) := by unfold ahd; rw [if_pos h0]
    refine V.aload0 h 22 dX5_isAhead_21 rfl (V.iload2 h 23 dX5_isAhead_22 rfl (V.iconst h 24 dX5_isAhead_23 rfl ic1_3 (V.callVf (As := [.int _, .int _]) (st := []) h 27 dX5_isAhead_24 rfl k648 k645 k647 ks63 k6 hd_X5_of ⟨(Nat.le_of_ble_eq_true rfl), (Nat.le_of_ble_eq_true rfl)⟩ (Nat.le_of_ble_eq_true rfl) zo rfl rfl ⟨Nat.zero_le _, Nat.zero_le _⟩ (c_of 3 rfl (by omega) (by decide)) rfl (V.aload0 h 28 dX5_isAhead_27 rfl (V.iload1 h 29 dX5_isAhead_28 rfl (V.iconst h 30 dX5_isAhead_29 rfl ic1_3 (V.callVf (As := [.int _, .int _]) (st := [.int _]) h 33 dX5_isAhead_30 rfl k648 k645 k647 ks63 k6 hd_X5_of ⟨(Nat.le_of_ble_eq_true rfl), (Nat.le_of_ble_eq_true rfl)⟩ (Nat.le_of_ble_eq_true rfl) zo rfl rfl ⟨Nat.zero_le _, Nat.zero_le _⟩ (c_of 3 rfl (by omega) (by decide)) rfl ?_)))))))
    refine V.isub h 34 dX5_isAhead_33 rfl (V.istore6 h 36 dX5_isAhead_34 rfl rfl (V.iload6 h 38 dX5_isAhead_36 rfl ?_))
    refine V.if_lt h 51 41 dX5_isAhead_38 rfl rfl (fun c38 => ?_) (fun c38 => ?_)
    · refine V.iconst h 52 dX5_isAhead_51 rfl ic1_1 (V.goto h 56 dX5_isAhead_52 rfl ?_)
      refine V.zret h hR (by first | exact bI_z _ | rfl) dX5_isAhead_56 ?_
      first | (refine RI_t ?_; rw [hq, decide_eq_true c38, Bool.true_or]; done) | (refine RI_f ?_; rw [hq, decide_eq_false c38, decide_eq_false c43]; rfl; done) | (refine RI_f ?_; rw [hq, decide_eq_false c38, decide_eq_false (le_n c48), Bool.and_false]; rfl; done) | (refine RI_t ?_; rw [hq, decide_eq_true (show sF s c 3 - sF s a 3 = 0 by simpa using c43), decide_eq_true (nle0 c48)]; simp; done)
    · refine V.iload6 h 43 dX5_isAhead_41 rfl ?_
      refine V.if_ne h 55 46 dX5_isAhead_43 rfl rfl (fun c43 => ?_) (fun c43 => ?_)
      · refine V.iconst h 56 dX5_isAhead_55 rfl ic1_0 ?_
        refine V.zret h hR (by first | exact bI_z _ | rfl) dX5_isAhead_56 ?_
        first | (refine RI_t ?_; rw [hq, decide_eq_true c38, Bool.true_or]; done) | (refine RI_f ?_; rw [hq, decide_eq_false c38, decide_eq_false c43]; rfl; done) | (refine RI_f ?_; rw [hq, decide_eq_false c38, decide_eq_false (le_n c48), Bool.and_false]; rfl; done) | (refine RI_t ?_; rw [hq, decide_eq_true (show sF s c 3 - sF s a 3 = 0 by simpa using c43), decide_eq_true (nle0 c48)]; simp; done)
      · refine V.iload5 h 48 dX5_isAhead_46 rfl ?_
        refine V.if_ge h 55 51 dX5_isAhead_48 rfl rfl (fun c48 => ?_) (fun c48 => ?_)
        · refine V.iconst h 56 dX5_isAhead_55 rfl ic1_0 ?_
          refine V.zret h hR (by first | exact bI_z _ | rfl) dX5_isAhead_56 ?_
          first | (refine RI_t ?_; rw [hq, decide_eq_true c38, Bool.true_or]; done) | (refine RI_f ?_; rw [hq, decide_eq_false c38, decide_eq_false c43]; rfl; done) | (refine RI_f ?_; rw [hq, decide_eq_false c38, decide_eq_false (le_n c48), Bool.and_false]; rfl; done) | (refine RI_t ?_; rw [hq, decide_eq_true (show sF s c 3 - sF s a 3 = 0 by simpa using c43), decide_eq_true (nle0 c48)]; simp; done)
        · refine V.iconst h 52 dX5_isAhead_51 rfl ic1_1 (V.goto h 56 dX5_isAhead_52 rfl ?_)
          refine V.zret h hR (by first | exact bI_z _ | rfl) dX5_isAhead_56 ?_
          first | (refine RI_t ?_; rw [hq, decide_eq_true c38, Bool.true_or]; done) | (refine RI_f ?_; rw [hq, decide_eq_false c38, decide_eq_false c43]; rfl; done) | (refine RI_f ?_; rw [hq, decide_eq_false c38, decide_eq_false (le_n c48), Bool.and_false]; rfl; done) | (refine RI_t ?_; rw [hq, decide_eq_true (show sF s c 3 - sF s a 3 = 0 by simpa using c43), decide_eq_true (nle0 c48)]; simp; done)
