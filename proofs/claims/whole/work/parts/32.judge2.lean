/-! the class: conditions, waves, the greatest part -/
def exC (P : Pl) (C : Int32) : Ex := if Bt C 12 = true then (P 9 12, P 10 12) else noX
theorem exC_1 {P : Pl} {C : Int32} {k : Nat} (hk : k < 4) (y : Int32) : (if (exC P C).1 = nI k then (if Bt C 12 = true then y else 0) else 0) = (if (Bt C 12 && decide (P 9 12 = nI k)) = true then y else 0) := by
  unfold exC
  cases hb : Bt C 12
  · simp
  · simp
theorem m1_ne {k : Nat} (hk : k < 2 ^ 31) : ¬ (-1 : Int32) = nI k := fun q => absurd (show nI k < 0 by rw [← q]; decide) (nI_pos hk)
theorem gsf_mny {P : Pl} {M : Int32} {k : Nat} (hk : k < 4) : gsf P M 13 k = mny P (exC P M) M (nI k) := by
  unfold gsf mny exC
  rw [sm_s]
  cases hb : Bt M 12
  · rw [if_neg (show ¬ false = true by decide), Bool.false_and, if_neg (show ¬ false = true by decide)]
    show _ = (if (-1 : Int32) = nI k then (0 : Int32) else 0) + _
    rw [if_neg (m1_ne (by omega)), Int32.add_zero, Int32.zero_add]
  · rw [if_pos (show true = true from rfl), Bool.true_and]
    show _ = (if P 9 12 = nI k then P 10 12 else 0) + _
    rw [i32_add_comm]
    refine congrArg (fun z => z + _) ?_
    simp
theorem gcf_mnn {P : Pl} {M : Int32} {k : Nat} (hk : k < 4) : gcf P M 13 k = mnn P (exC P M) M (nI k) := by
  unfold gcf mnn exC
  rw [sm_s]
  cases hb : Bt M 12
  · rw [if_neg (show ¬ false = true by decide), Bool.false_and, if_neg (show ¬ false = true by decide)]
    show _ = (if (-1 : Int32) = nI k then (1 : Int32) else 0) + _
    rw [if_neg (m1_ne (by omega)), Int32.add_zero, Int32.zero_add]
  · rw [if_pos (show true = true from rfl), Bool.true_and]
    show _ = (if P 9 12 = nI k then (1 : Int32) else 0) + _
    rw [i32_add_comm]
    refine congrArg (fun z => z + _) ?_
    simp
theorem wo_bt (S : Int32) {k i : Nat} (hk : k < 32) (hi : i < 32) : Bt (wo S k) i = (Bt S i && !decide (i = k)) := by
  unfold wo; rw [bt_and, bt_not _ hi, bt_pw hk]
theorem mny_wo {P : Pl} {x : Ex} {M : Int32} {k : Nat} {j : Int32} (hk : k < 12) (hM : Bt M k = true) (hj : P 9 k = j) : mny P x M j - P 10 k = mny P x (wo M k) j := by
  unfold mny
  rw [sm_out _ hk, if_pos (show (Bt M k && decide (P 9 k = j)) = true by rw [hM, decide_eq_true hj]; rfl), ← i32_add_assoc, Int32.add_sub_cancel]
  refine congrArg (HAdd.hAdd _) (sm_congr fun i hi => ?_)
  rw [wo_bt _ (by omega) (by omega)]
  by_cases h : i = k
  · rw [if_pos h, decide_eq_true h]; simp
  · rw [if_neg h, decide_eq_false h]; simp
theorem mnn_wo {P : Pl} {x : Ex} {M : Int32} {k : Nat} {j : Int32} (hk : k < 12) (hM : Bt M k = true) (hj : P 9 k = j) : mnn P x M j - 1 = mnn P x (wo M k) j := by
  unfold mnn
  rw [sm_out _ hk, if_pos (show (Bt M k && decide (P 9 k = j)) = true by rw [hM, decide_eq_true hj]; rfl), ← i32_add_assoc, Int32.add_sub_cancel]
  refine congrArg (HAdd.hAdd _) (sm_congr fun i hi => ?_)
  rw [wo_bt _ (by omega) (by omega)]
  by_cases h : i = k
  · rw [if_pos h, decide_eq_true h]; simp
  · rw [if_neg h, decide_eq_false h]; simp
/-- members that can be looked at; the place of a pledge that is only thought of is 12, its giver 8 -/
def WFm (P : Pl) (M : Int32) : Prop := ∀ k, k < 13 → Bt M k = true → (∃ t, t < 4 ∧ P 9 k = nI t) ∧ (∃ g, g < 9 ∧ P 8 k = nI g) ∧ (k = 12 → P 8 k = nI 8)
def cOKc (P : Pl) (k : Nat) : Prop := P 11 k = 0 ∨ P 11 k = 1 ∨ P 11 k = 2 ∨ (P 11 k = 3 ∧ ∃ v, v < 8 ∧ P 12 k = nI v) ∨ (P 11 k = 4 ∧ ∃ v, v < 4 ∧ P 12 k = nI v)
theorem gvr_bt {P : Pl} {M : Int32} (hW : WFm P M) {v : Nat} (hv : v < 8) : ∀ n, n ≤ 13 → Bt (gvr P M n) v = anyb (fun k => Bt M k && decide (P 8 k = nI v)) n
  | 0, _ => by rw [gvr, bt_0]; rfl
  | n + 1, hn => by
    have ih := gvr_bt hW hv n (by omega)
    rw [gvr, anyb, ← ih]
    cases hb : Bt M n
    · simp
    · obtain ⟨⟨t, ht, e9⟩, ⟨g, hg, e8⟩, -⟩ := hW n (by omega) hb
      rw [e9, e8, decide_eq_true (nI_pos' (by omega)), decide_eq_true (show nI t < (4 : Int32) from show nI t < nI 4 from nI_lt ht (by decide)), Bool.true_and, Bool.and_true, if_pos rfl, bt_or, bt_pw (by omega)]
      congr 1
      rw [Bool.true_and]
      by_cases hgv : v = g
      · rw [hgv]; simp
      · rw [decide_eq_false hgv, decide_eq_false (fun q => hgv (nI_inj (by omega) (by omega) q).symm)]
theorem gvr_isO {P : Pl} {M : Int32} (hW : WFm P M) {v : Nat} (hv : v < 8) : Bt (gvr P M 13) v = isO P M (nI v) := by
  rw [gvr_bt hW hv 13 (Nat.le_refl _), anyb]
  unfold isO
  cases hb : Bt M 12
  · simp
  · rw [(hW 12 (by decide) hb).2.2 rfl, decide_eq_false (fun q => by have := nI_inj (by decide) (by omega) q; omega)]
    simp
theorem c_X1_holds {w : Wd} {p j k : Nat} {P : Pl} {f g : Nat → Int32} {v M : Int32} (hP0 : PlaceAt w p P) (hd : p + 10 ≤ j ∨ j + 3 ≤ p) (hk : k < 12) (hMk : Bt M k = true) (hW : WFm P M) (hc : cOKc P k) (hG : Gat P M f g v) : K_X1_holds [.ref j, .int (nI k)] (jt w p j f g v) (RI (bI (hld P (exC P M) k M)) (jt w p j f g v)) := by
  refine Con.mk [some (.ref j), some (.int (nI k)), none, none, none] (by decide) rfl rfl (Nat.le_of_ble_eq_true rfl) (fun X h hR hnm => ?_)
  have hP : ∀ f g v, PlaceAt (jt w p j f g v) p P := fun _ _ _ => jt_P hP0 hd
  obtain ⟨t, ht, et⟩ := (hW k (by omega) hMk).1
  obtain ⟨hf, hg, hv⟩ := hG
  have t4 : ∀ {q : Nat}, q < 4 → nI q < (4 : Int32) := fun {q} hq => show nI q < nI 4 from nI_lt hq (by decide)
  by_cases h4 : P 11 k = 4
  · obtain ⟨qq, hq, eq⟩ : ∃ qq, qq < 4 ∧ P 12 k = nI qq := by
      rcases hc with z | z | z | ⟨z, -⟩ | ⟨-, z⟩
      · exact absurd (z.symm.trans h4) (by decide)
      · exact absurd (z.symm.trans h4) (by decide)
      · exact absurd (z.symm.trans h4) (by decide)
      · exact absurd (z.symm.trans h4) (by decide)
      · exact z
    have hh : hld P (exC P M) k M = decide (P 1 qq ≤ mny P (exC P M) M (nI qq)) := by
      unfold hld
      rw [if_neg (by rw [h4]; decide), if_neg (by rw [h4]; decide), if_neg (by rw [h4]; decide), if_neg (by rw [h4]; decide), eq, nI_tn (by omega)]
    refine V.aload0 h 1 dX1_holds_0 rfl (V.gX1 h 0 4 dX1_holds_1 rfl rfl k126 jto rfl (V.gX2N h 11 7 dX1_holds_4 rfl rfl k63 (hP _ _ _).po rfl (V.iload1 h 8 dX1_holds_7 rfl (V.ialdN h 9 dX1_holds_8 rfl (hP _ _ _).pa7 (by omega) (by decide) (V.istore2 h 10 dX1_holds_9 rfl rfl (V.aload0 h 11 dX1_holds_10 rfl (V.gX1 h 0 14 dX1_holds_11 rfl rfl k126 jto rfl ?_)))))))
    refine V.gX2N h 12 17 dX1_holds_14 rfl rfl k67 (hP _ _ _).po rfl (V.iload1 h 18 dX1_holds_17 rfl (V.ialdN h 19 dX1_holds_18 rfl (hP _ _ _).pa8 (by omega) (by decide) ?_))
    rw [eq]
    refine V.istore3 h 20 dX1_holds_19 rfl rfl (V.iload2 h 21 dX1_holds_20 rfl (V.iconst h 22 dX1_holds_21 rfl ic1_4 ?_))
    refine V.icmp_ne h 29 25 dX1_holds_22 rfl rfl (fun q => absurd h4 q) (fun _ => ?_)
    refine V.iload3 h 26 dX1_holds_25 rfl (V.goto h 38 dX1_holds_26 rfl (V.istore4 h 40 dX1_holds_38 rfl rfl (V.iload4 h 42 dX1_holds_40 rfl ?_)))
    refine V.if_lt h 51 45 dX1_holds_42 rfl rfl (fun q => absurd q (nI_pos (show qq < 2 ^ 31 by omega))) (fun _ => ?_)
    refine V.iload4 h 47 dX1_holds_45 rfl (V.iconst h 48 dX1_holds_47 rfl ic1_4 ?_)
    refine V.icmp_lt h 53 51 dX1_holds_48 rfl rfl (fun _ => ?_) (fun q => absurd (t4 hq) q)
    refine V.iload2 h 54 dX1_holds_53 rfl ?_
    refine V.tcase (off := 30) h (1 : Int32) 84 dX1_holds_54 (by decide) (by decide +kernel) rfl (fun c54_1 => ?_) (fun c54_1 => ?_)
    · exact absurd (h4.symm.trans c54_1) (by decide)
    refine V.tcase (off := 57) h (2 : Int32) 111 dX1_holds_54 (by decide) (by decide +kernel) rfl (fun c54_2 => ?_) (fun c54_2 => ?_)
    · exact absurd (h4.symm.trans c54_2) (by decide)
    refine V.tcase (off := 76) h (3 : Int32) 130 dX1_holds_54 (by decide) (by decide +kernel) rfl (fun c54_3 => ?_) (fun c54_3 => ?_)
    · exact absurd (h4.symm.trans c54_3) (by decide)
    refine V.tcase (off := 93) h (4 : Int32) 147 dX1_holds_54 (by decide) (by decide +kernel) rfl (fun c54_4 => ?_) (fun c54_4 => ?_)
    · refine V.aload0 h 148 dX1_holds_147 rfl (V.gX1 h 1 151 dX1_holds_148 rfl rfl k127 jto rfl (V.iload4 h 153 dX1_holds_151 rfl (V.ialdN h 154 dX1_holds_153 rfl jta1 (by omega) (by decide) ?_)))
      rw [hf qq hq, gsf_mny hq]
      refine V.aload0 h 155 dX1_holds_154 rfl (V.gX1 h 0 158 dX1_holds_155 rfl rfl k126 jto rfl (V.gX2N h 1 161 dX1_holds_158 rfl rfl k28 (hP _ _ _).po rfl (V.iload4 h 163 dX1_holds_161 rfl (V.ialdN h 164 dX1_holds_163 rfl (hP _ _ _).pa1 (by omega) (by decide) ?_))))
      refine V.icmp_lt h 171 167 dX1_holds_164 rfl rfl (fun c164 => ?_) (fun c164 => ?_)
      · refine V.iconst h 172 dX1_holds_171 rfl ic1_0 ?_
        refine V.zret h hR (by first | exact bI_z _ | rfl) dX1_holds_172 ?_
        first | exact RI_t (by rw [hh]; exact decide_eq_true (nlt c164)) | exact RI_f (by rw [hh]; exact decide_eq_false (lt_n c164))
      · refine V.iconst h 168 dX1_holds_167 rfl ic1_1 (V.goto h 172 dX1_holds_168 rfl ?_)
        refine V.zret h hR (by first | exact bI_z _ | rfl) dX1_holds_172 ?_
        first | exact RI_t (by rw [hh]; exact decide_eq_true (nlt c164)) | exact RI_f (by rw [hh]; exact decide_eq_false (lt_n c164))
    refine V.tdflt h 173 dX1_holds_54 (by have e1 := lv_neT (a := 1) c54_1 (by decide); have e2 := lv_neT (a := 2) c54_2 (by decide); have e3 := lv_neT (a := 3) c54_3 (by decide); have e4 := lv_neT (a := 4) c54_4 (by decide); omega) rfl ?_
    exact absurd h4 c54_4
  · have hh : hld P (exC P M) k M = (if P 11 k = 0 then true else if P 11 k = 1 then decide (P 12 k ≤ mny P (exC P M) M (nI t) - P 10 k) else if P 11 k = 2 then decide (P 12 k ≤ mnn P (exC P M) M (nI t) - 1) else if P 11 k = 3 then isO P M (P 12 k) else decide (P 1 (P 12 k).toNatClampNeg ≤ mny P (exC P M) M (P 12 k))) := by
      unfold hld
      rw [mny_wo hk hMk et, mnn_wo hk hMk et, et]
    refine V.aload0 h 1 dX1_holds_0 rfl (V.gX1 h 0 4 dX1_holds_1 rfl rfl k126 jto rfl (V.gX2N h 11 7 dX1_holds_4 rfl rfl k63 (hP _ _ _).po rfl (V.iload1 h 8 dX1_holds_7 rfl (V.ialdN h 9 dX1_holds_8 rfl (hP _ _ _).pa7 (by omega) (by decide) (V.istore2 h 10 dX1_holds_9 rfl rfl (V.aload0 h 11 dX1_holds_10 rfl (V.gX1 h 0 14 dX1_holds_11 rfl rfl k126 jto rfl ?_)))))))
    refine V.gX2N h 12 17 dX1_holds_14 rfl rfl k67 (hP _ _ _).po rfl (V.iload1 h 18 dX1_holds_17 rfl (V.ialdN h 19 dX1_holds_18 rfl (hP _ _ _).pa8 (by omega) (by decide) (V.istore3 h 20 dX1_holds_19 rfl rfl (V.iload2 h 21 dX1_holds_20 rfl (V.iconst h 22 dX1_holds_21 rfl ic1_4 ?_)))))
    refine V.icmp_ne h 29 25 dX1_holds_22 rfl rfl (fun _ => ?_) (fun q => absurd q h4)
    refine V.aload0 h 30 dX1_holds_29 rfl (V.gX1 h 0 33 dX1_holds_30 rfl rfl k126 jto rfl (V.gX2N h 9 36 dX1_holds_33 rfl rfl k55 (hP _ _ _).po rfl (V.iload1 h 37 dX1_holds_36 rfl (V.ialdN h 38 dX1_holds_37 rfl (hP _ _ _).pa5 (by omega) (by decide) ?_))))
    rw [et]
    refine V.istore4 h 40 dX1_holds_38 rfl rfl (V.iload4 h 42 dX1_holds_40 rfl ?_)
    refine V.if_lt h 51 45 dX1_holds_42 rfl rfl (fun q => absurd q (nI_pos (show t < 2 ^ 31 by omega))) (fun _ => ?_)
    refine V.iload4 h 47 dX1_holds_45 rfl (V.iconst h 48 dX1_holds_47 rfl ic1_4 ?_)
    refine V.icmp_lt h 53 51 dX1_holds_48 rfl rfl (fun _ => ?_) (fun q => absurd (t4 ht) q)
    refine V.iload2 h 54 dX1_holds_53 rfl ?_
    refine V.tcase (off := 30) h (1 : Int32) 84 dX1_holds_54 (by decide) (by decide +kernel) rfl (fun c54_1 => ?_) (fun c54_1 => ?_)
    · refine V.aload0 h 85 dX1_holds_84 rfl (V.gX1 h 1 88 dX1_holds_85 rfl rfl k127 jto rfl (V.iload4 h 90 dX1_holds_88 rfl (V.ialdN h 91 dX1_holds_90 rfl jta1 (by omega) (by decide) ?_)))
      rw [hf t ht, gsf_mny ht]
      refine V.aload0 h 92 dX1_holds_91 rfl (V.gX1 h 0 95 dX1_holds_92 rfl rfl k126 jto rfl (V.gX2N h 10 98 dX1_holds_95 rfl rfl k59 (hP _ _ _).po rfl (V.iload1 h 99 dX1_holds_98 rfl (V.ialdN h 100 dX1_holds_99 rfl (hP _ _ _).pa6 (by omega) (by decide) (V.isub h 101 dX1_holds_100 rfl (V.iload3 h 102 dX1_holds_101 rfl ?_))))))
      refine V.icmp_lt h 109 105 dX1_holds_102 rfl rfl (fun c102 => ?_) (fun c102 => ?_)
      · refine V.iconst h 110 dX1_holds_109 rfl ic1_0 ?_
        refine V.zret h hR (by first | exact bI_z _ | rfl) dX1_holds_110 ?_
        first | exact RI_t (by rw [hh, if_neg (by rw [c54_1]; decide), if_pos c54_1]; exact decide_eq_true (nlt c102)) | exact RI_f (by rw [hh, if_neg (by rw [c54_1]; decide), if_pos c54_1]; exact decide_eq_false (lt_n c102))
      · refine V.iconst h 106 dX1_holds_105 rfl ic1_1 (V.goto h 110 dX1_holds_106 rfl ?_)
        refine V.zret h hR (by first | exact bI_z _ | rfl) dX1_holds_110 ?_
        first | exact RI_t (by rw [hh, if_neg (by rw [c54_1]; decide), if_pos c54_1]; exact decide_eq_true (nlt c102)) | exact RI_f (by rw [hh, if_neg (by rw [c54_1]; decide), if_pos c54_1]; exact decide_eq_false (lt_n c102))
    refine V.tcase (off := 57) h (2 : Int32) 111 dX1_holds_54 (by decide) (by decide +kernel) rfl (fun c54_2 => ?_) (fun c54_2 => ?_)
    · refine V.aload0 h 112 dX1_holds_111 rfl (V.gX1 h 2 115 dX1_holds_112 rfl rfl k128 jto rfl (V.iload4 h 117 dX1_holds_115 rfl (V.ialdN h 118 dX1_holds_117 rfl jta2 (by omega) (by decide) ?_)))
      rw [hg t ht, gcf_mnn ht]
      refine V.iconst h 119 dX1_holds_118 rfl ic1_1 (V.isub h 120 dX1_holds_119 rfl (V.iload3 h 121 dX1_holds_120 rfl ?_))
      refine V.icmp_lt h 128 124 dX1_holds_121 rfl rfl (fun c121 => ?_) (fun c121 => ?_)
      · refine V.iconst h 129 dX1_holds_128 rfl ic1_0 ?_
        refine V.zret h hR (by first | exact bI_z _ | rfl) dX1_holds_129 ?_
        first | exact RI_t (by rw [hh, if_neg (by rw [c54_2]; decide), if_neg c54_1, if_pos c54_2]; exact decide_eq_true (nlt c121)) | exact RI_f (by rw [hh, if_neg (by rw [c54_2]; decide), if_neg c54_1, if_pos c54_2]; exact decide_eq_false (lt_n c121))
      · refine V.iconst h 125 dX1_holds_124 rfl ic1_1 (V.goto h 129 dX1_holds_125 rfl ?_)
        refine V.zret h hR (by first | exact bI_z _ | rfl) dX1_holds_129 ?_
        first | exact RI_t (by rw [hh, if_neg (by rw [c54_2]; decide), if_neg c54_1, if_pos c54_2]; exact decide_eq_true (nlt c121)) | exact RI_f (by rw [hh, if_neg (by rw [c54_2]; decide), if_neg c54_1, if_pos c54_2]; exact decide_eq_false (lt_n c121))
    refine V.tcase (off := 76) h (3 : Int32) 130 dX1_holds_54 (by decide) (by decide +kernel) rfl (fun c54_3 => ?_) (fun c54_3 => ?_)
    · obtain ⟨qq, hq, eq⟩ : ∃ qq, qq < 8 ∧ P 12 k = nI qq := by
        rcases hc with z | z | z | ⟨-, z⟩ | ⟨z, -⟩
        · exact absurd (z.symm.trans c54_3) (by decide)
        · exact absurd (z.symm.trans c54_3) (by decide)
        · exact absurd (z.symm.trans c54_3) (by decide)
        · exact z
        · exact absurd z h4
      rw [eq]
      refine V.aload0 h 131 dX1_holds_130 rfl (V.gX1 h 3 134 dX1_holds_131 rfl rfl k129 jto rfl (V.iload3 h 135 dX1_holds_134 rfl (V.ishr h 136 dX1_holds_135 rfl (V.iconst h 137 dX1_holds_136 rfl ic1_1 (V.iand h 138 dX1_holds_137 rfl ?_)))))
      rw [tst v (show qq < 32 by omega), show Bt v qq = isO P M (nI qq) from (by rw [hv]; exact gvr_isO hW hq)]
      refine V.bif_eq h 145 141 dX1_holds_138 rfl rfl (fun c138 => ?_) (fun c138 => ?_)
      · refine V.iconst h 146 dX1_holds_145 rfl ic1_0 ?_
        refine V.zret h hR (by first | exact bI_z _ | rfl) dX1_holds_146 ?_
        have e3 : hld P (exC P M) k M = isO P M (nI qq) := by
          rw [hh, if_neg (by rw [c54_3]; decide), if_neg (by rw [c54_3]; decide), if_neg (by rw [c54_3]; decide), if_pos c54_3, eq]
        first | exact RI_t (e3.trans c138) | exact RI_f (e3.trans c138)
      · refine V.iconst h 142 dX1_holds_141 rfl ic1_1 (V.goto h 146 dX1_holds_142 rfl ?_)
        refine V.zret h hR (by first | exact bI_z _ | rfl) dX1_holds_146 ?_
        have e3 : hld P (exC P M) k M = isO P M (nI qq) := by
          rw [hh, if_neg (by rw [c54_3]; decide), if_neg (by rw [c54_3]; decide), if_neg (by rw [c54_3]; decide), if_pos c54_3, eq]
        first | exact RI_t (e3.trans c138) | exact RI_f (e3.trans c138)
    refine V.tcase (off := 93) h (4 : Int32) 147 dX1_holds_54 (by decide) (by decide +kernel) rfl (fun c54_4 => ?_) (fun c54_4 => ?_)
    · exact absurd c54_4 h4
    refine V.tdflt h 173 dX1_holds_54 (by have e1 := lv_neT (a := 1) c54_1 (by decide); have e2 := lv_neT (a := 2) c54_2 (by decide); have e3 := lv_neT (a := 3) c54_3 (by decide); have e4 := lv_neT (a := 4) c54_4 (by decide); omega) rfl ?_
    refine V.iconst h 174 dX1_holds_173 rfl ic1_1 ?_
    refine V.zret h hR (by first | exact bI_z _ | rfl) dX1_holds_174 ?_
    have h0 : P 11 k = 0 := by
      rcases hc with z | z | z | ⟨z, -⟩ | ⟨z, -⟩
      · exact z
      · exact absurd z c54_1
      · exact absurd z c54_2
      · exact absurd z c54_3
      · exact absurd z h4
    exact RI_t (by rw [hh, if_pos h0])
