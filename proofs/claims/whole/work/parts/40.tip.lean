/-! the class: the tip -/
def tpg (P : Pl) (j : Int32) (n : Nat) : Bool := hasG P noX (grt P noX (P 6 0 &&& uptoP P (P 13 n)) (P 7 0 &&& uptoP P (P 13 n)) ||| (P 7 0 &&& uptoP P (P 13 n))) j
def tpC (P : Pl) (j : Int32) : Nat → Int32 × Int32
  | 0 => (-4, P 14 0)
  | n + 1 => if (Bt (live P) n && (decide (P 13 n < (tpC P j n).2) && tpg P j n)) = true then (nI n, P 13 n) else tpC P j n
theorem tpC_n {P : Pl} {j : Int32} {n : Nat} (h : (Bt (live P) n && (decide (P 13 n < (tpC P j n).2) && tpg P j n)) = false) : tpC P j (n + 1) = tpC P j n := by rw [tpC, h, if_neg Bool.false_ne_true]
theorem tpC_y {P : Pl} {j : Int32} {n : Nat} (h : (Bt (live P) n && (decide (P 13 n < (tpC P j n).2) && tpg P j n)) = true) : tpC P j (n + 1) = (nI n, P 13 n) := by rw [tpC, h, if_pos rfl]
theorem c_X1_tip {w : Wd} {p j q0 : Nat} {P : Pl} {f g : Nat → Int32} {v : Int32} (hP0 : PlaceAt w p P) (hd : p + 10 ≤ j ∨ j + 3 ≤ p) (hO : POK P) (hq : q0 < 4) : K_X1_tip [.ref j, .int (nI q0)] (jt w p j f g v) (RE (tpC P (nI q0) 12).1 (JW w p j)) := by
  refine Con.mk [some (.ref j), some (.int (nI q0)), none, none, none, none] (by decide) rfl rfl (Nat.le_of_ble_eq_true rfl) (fun X h hR hnm => ?_)
  have hP : ∀ f g v, PlaceAt (jt w p j f g v) p P := fun _ _ _ => jt_P hP0 hd
  have L : ∀ (d n : Nat) (t : Int32 × Int32) (u : Option Value) (f g : Nat → Int32) (v : Int32), n + d = 12 → t = tpC P (nI q0) n → V X 0 0 14 [some (.ref j), some (.int (nI q0)), some (.int t.1), some (.int t.2), some (.int (nI n)), u] [] (jt w p j f g v) := by
    intro d
    induction d with
    | zero =>
      intro n t u f g v hnd ht
      obtain rfl : n = 12 := by omega
      refine V.iload4 h 16 dX1_tip_14 rfl (V.bipush h 18 dX1_tip_16 rfl ic2_12 ?_)
      refine V.icmp_ge h 114 21 dX1_tip_18 rfl rfl (fun _ => ?_) (fun q => absurd (lp_out (n := 12)) q)
      refine V.iload2 h 115 dX1_tip_114 rfl ?_
      refine V.iret h hR dX1_tip_115 ?_
      exact ⟨by rw [ht], f, g, v, rfl⟩
    | succ d ih =>
      intro n t u f g v hnd ht
      refine V.iload4 h 16 dX1_tip_14 rfl (V.bipush h 18 dX1_tip_16 rfl ic2_12 ?_)
      refine V.icmp_ge h 114 21 dX1_tip_18 rfl rfl (fun q => absurd q (lp_in (n := 12) (by omega))) (fun _ => ?_)
      refine V.aload0 h 22 dX1_tip_21 rfl (V.gX1 h 0 25 dX1_tip_22 rfl rfl k126 jto rfl (V.iload4 h 27 dX1_tip_25 rfl (V.callNf (As := [.int _]) (st := []) h 30 dX1_tip_27 rfl k301 k391 k300 ks15 k2 hd_X2_hasPledge ⟨(Nat.le_of_ble_eq_true rfl), (Nat.le_of_ble_eq_true rfl)⟩ (Nat.le_of_ble_eq_true rfl) (hP _ _ _).po rfl rfl ⟨Nat.zero_le _, Nat.zero_le _⟩ (c_X2_hasPledge (hP _ _ _)) rfl ?_)))
      rw [hpl_k (show n < 12 by omega)]
      refine V.bif_eq h 108 33 dX1_tip_30 rfl rfl (fun c30 => ?_) (fun c30 => ?_)
      · refine V.incN4 h 111 dX1_tip_108 rfl rfl (V.goto h 14 dX1_tip_111 rfl ?_)
        first
        | exact ih (n + 1) t _ _ _ _ (by omega) (by rw [tpC_n (by rw [c30]; rfl)]; exact ht)
        | exact ih (n + 1) t _ _ _ _ (by omega) (by rw [tpC_n (by rw [← ht, decide_eq_false (le_n c44), Bool.false_and, Bool.and_false])]; exact ht)
        | exact ih (n + 1) t _ _ _ _ (by omega) (by rw [tpC_n (by rw [show tpg P (nI q0) n = false from c91, Bool.and_false, Bool.and_false])]; exact ht)
        | exact ih (n + 1) (nI n, P 13 n) _ _ _ _ (by omega) (by rw [tpC_y (by rw [c30, ← ht, decide_eq_true (nle c44), show tpg P (nI q0) n = true from c91]; rfl)])
      · refine V.aload0 h 34 dX1_tip_33 rfl (V.gX1 h 0 37 dX1_tip_34 rfl rfl k126 jto rfl (V.gX2N h 13 40 dX1_tip_37 rfl rfl k73 (hP _ _ _).po rfl (V.iload4 h 42 dX1_tip_40 rfl (V.ialdN h 43 dX1_tip_42 rfl (hP _ _ _).pa9 (by omega) (by decide) (V.iload3 h 44 dX1_tip_43 rfl ?_)))))
        refine V.icmp_ge h 108 47 dX1_tip_44 rfl rfl (fun c44 => ?_) (fun c44 => ?_)
        · refine V.incN4 h 111 dX1_tip_108 rfl rfl (V.goto h 14 dX1_tip_111 rfl ?_)
          first
          | exact ih (n + 1) t _ _ _ _ (by omega) (by rw [tpC_n (by rw [c30]; rfl)]; exact ht)
          | exact ih (n + 1) t _ _ _ _ (by omega) (by rw [tpC_n (by rw [← ht, decide_eq_false (le_n c44), Bool.false_and, Bool.and_false])]; exact ht)
          | exact ih (n + 1) t _ _ _ _ (by omega) (by rw [tpC_n (by rw [show tpg P (nI q0) n = false from c91, Bool.and_false, Bool.and_false])]; exact ht)
          | exact ih (n + 1) (nI n, P 13 n) _ _ _ _ (by omega) (by rw [tpC_y (by rw [c30, ← ht, decide_eq_true (nle c44), show tpg P (nI q0) n = true from c91]; rfl)])
        · refine V.aload0 h 48 dX1_tip_47 rfl (V.gX1 h 0 51 dX1_tip_48 rfl rfl k126 jto rfl (V.aload0 h 52 dX1_tip_51 rfl (V.gX1 h 0 55 dX1_tip_52 rfl rfl k126 jto rfl (V.gX2N h 13 58 dX1_tip_55 rfl rfl k73 (hP _ _ _).po rfl (V.iload4 h 60 dX1_tip_58 rfl (V.ialdN h 61 dX1_tip_60 rfl (hP _ _ _).pa9 (by omega) (by decide) ?_))))))
          refine V.callNf (As := [.int _]) (st := []) h 64 dX1_tip_61 rfl k395 k392 k394 ks32 k2 hd_X2_pledgesUpTo ⟨(Nat.le_of_ble_eq_true rfl), (Nat.le_of_ble_eq_true rfl)⟩ (Nat.le_of_ble_eq_true rfl) (hP _ _ _).po rfl rfl ⟨Nat.zero_le _, Nat.zero_le _⟩ (c_X2_pledgesUpTo (hP _ _ _)) rfl (V.istore5 h 66 dX1_tip_64 rfl rfl (V.aload0 h 67 dX1_tip_66 rfl (V.iload1 h 68 dX1_tip_67 rfl (V.aload0 h 69 dX1_tip_68 rfl (V.gX1 h 0 72 dX1_tip_69 rfl rfl k126 jto rfl (V.gX2N h 6 75 dX1_tip_72 rfl rfl k44 (hP _ _ _).po rfl (V.iload5 h 77 dX1_tip_75 rfl ?_)))))))
          refine V.iand h 78 dX1_tip_77 rfl (V.aload0 h 79 dX1_tip_78 rfl (V.gX1 h 0 82 dX1_tip_79 rfl rfl k126 jto rfl (V.gX2N h 7 85 dX1_tip_82 rfl rfl k48 (hP _ _ _).po rfl (V.iload5 h 87 dX1_tip_85 rfl (V.iand h 88 dX1_tip_87 rfl (V.callVe (As := [.int _, .int _, .int _]) (st := []) h 91 dX1_tip_88 rfl k384 k381 k383 ks30 k3 hd_X1_reaches ⟨(Nat.le_of_ble_eq_true rfl), (Nat.le_of_ble_eq_true rfl)⟩ (Nat.le_of_ble_eq_true rfl) jto rfl rfl ⟨Nat.zero_le _, Nat.zero_le _⟩ (c_X1_reaches hP0 hd hO (sb_and _ (sb_op P)) (sb_and _ (sb_ca P)) hq) rfl (fun w88 hw88 => ?_)))))))
          obtain ⟨f1, g1, v1, rfl⟩ := hw88
          refine V.bif_eq h 108 94 dX1_tip_91 rfl rfl (fun c91 => ?_) (fun c91 => ?_)
          · refine V.incN4 h 111 dX1_tip_108 rfl rfl (V.goto h 14 dX1_tip_111 rfl ?_)
            first
            | exact ih (n + 1) t _ _ _ _ (by omega) (by rw [tpC_n (by rw [c30]; rfl)]; exact ht)
            | exact ih (n + 1) t _ _ _ _ (by omega) (by rw [tpC_n (by rw [← ht, decide_eq_false (le_n c44), Bool.false_and, Bool.and_false])]; exact ht)
            | exact ih (n + 1) t _ _ _ _ (by omega) (by rw [tpC_n (by rw [show tpg P (nI q0) n = false from c91, Bool.and_false, Bool.and_false])]; exact ht)
            | exact ih (n + 1) (nI n, P 13 n) _ _ _ _ (by omega) (by rw [tpC_y (by rw [c30, ← ht, decide_eq_true (nle c44), show tpg P (nI q0) n = true from c91]; rfl)])
          · refine V.iload4 h 96 dX1_tip_94 rfl (V.istore2 h 97 dX1_tip_96 rfl rfl (V.aload0 h 98 dX1_tip_97 rfl (V.gX1 h 0 101 dX1_tip_98 rfl rfl k126 jto rfl (V.gX2N h 13 104 dX1_tip_101 rfl rfl k73 (hP _ _ _).po rfl (V.iload4 h 106 dX1_tip_104 rfl (V.ialdN h 107 dX1_tip_106 rfl (hP _ _ _).pa9 (by omega) (by decide) (V.istore3 h 108 dX1_tip_107 rfl rfl ?_)))))))
            refine V.incN4 h 111 dX1_tip_108 rfl rfl (V.goto h 14 dX1_tip_111 rfl ?_)
            first
            | exact ih (n + 1) t _ _ _ _ (by omega) (by rw [tpC_n (by rw [c30]; rfl)]; exact ht)
            | exact ih (n + 1) t _ _ _ _ (by omega) (by rw [tpC_n (by rw [← ht, decide_eq_false (le_n c44), Bool.false_and, Bool.and_false])]; exact ht)
            | exact ih (n + 1) t _ _ _ _ (by omega) (by rw [tpC_n (by rw [show tpg P (nI q0) n = false from c91, Bool.and_false, Bool.and_false])]; exact ht)
            | exact ih (n + 1) (nI n, P 13 n) _ _ _ _ (by omega) (by rw [tpC_y (by rw [c30, ← ht, decide_eq_true (nle c44), show tpg P (nI q0) n = true from c91]; rfl)])
  refine V.bipush h 2 dX1_tip_0 rfl ic2_m4 (V.istore2 h 3 dX1_tip_2 rfl rfl (V.aload0 h 4 dX1_tip_3 rfl (V.gX1 h 0 7 dX1_tip_4 rfl rfl k126 jto rfl (V.gX2N h 14 10 dX1_tip_7 rfl rfl k77 (hP _ _ _).po rfl (V.istore3 h 11 dX1_tip_10 rfl rfl (V.iconst h 12 dX1_tip_11 rfl ic1_0 (V.istore4 h 14 dX1_tip_12 rfl rfl ?_)))))))
  exact L 12 0 (-4, P 14 0) none f g v rfl rfl
