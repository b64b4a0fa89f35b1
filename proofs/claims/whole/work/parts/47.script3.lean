/-! the class: commands done, texts tried -/
def cDo (P : Pl) (c : Int32) (N : Nat → Int32) : Int32 × Pl :=
  if c = 103 then cAdd P (N 0) else if c = 104 then cCome P (N 0) else if c = 112 then cMk P (N 0) (N 1) (N 2) (N 3) (N 4) else if c = 119 then cWd P (N 0) else if c = 99 then cCo P (N 0) else (-1, P)
def cPre (P : Pl) : Prop := (∃ np, np ≤ 4 ∧ P 0 0 = nI np) ∧ (∃ nq, nq ≤ 8 ∧ P 3 0 = nI nq) ∧ POK P
theorem c_X3_doCommand {w : Wd} {s : Nat} {P S : Pl} {f g : Nat → Int32} {v c : Int32} (hX : XK w s) (hp : cPre P) : K_X3_doCommand [.ref s, .int c] (xs w s P f g v S) (RJ (cDo P c (S 2)) (ss w s S) (s + 3) (s + 14)) := by
  obtain ⟨⟨np, h4, hn⟩, ⟨nq, h8, hq⟩, hO⟩ := hp
  refine Con.mk [some (.ref s), some (.int c)] (by decide) rfl rfl (Nat.le_of_ble_eq_true rfl) (fun X h hR hnm => ?_)
  have hck : CK (ss w s S) (s + 13) (s + 3) (s + 14) := hX.ck
  refine V.iload1 h 1 dX3_doCommand_0 rfl ?_
  refine V.lcase (off := 131) h (99 : Int32) 132 dX3_doCommand_1 (by decide +kernel) (by decide +kernel) rfl (fun c1_99 => ?_) (fun c1_99 => ?_)
  · refine V.aload0 h 133 dX3_doCommand_132 rfl (V.gX3 h 4 136 dX3_doCommand_133 rfl rfl k170 xo rfl (V.aload0 h 137 dX3_doCommand_136 rfl (V.gX3 h 2 140 dX3_doCommand_137 rfl rfl k167 xo rfl (V.iconst h 141 dX3_doCommand_140 rfl ic1_0 (V.ialdN (i := 0) h 142 dX3_doCommand_141 rfl xa2 (by omega) (by decide) (V.callNe (As := [.int _]) (st := []) h 145 dX3_doCommand_142 rfl k334 k529 k333 ks21 k4 hd_X0_collect ⟨(Nat.le_of_ble_eq_true rfl), (Nat.le_of_ble_eq_true rfl)⟩ (Nat.le_of_ble_eq_true rfl) (cto hck) rfl rfl ⟨Nat.zero_le _, Nat.zero_le _⟩ (c_X0_collect hck hn h4 hO) rfl (fun w142 hw142 => ?_)))))))
    obtain ⟨f1, g1, v1, rfl⟩ := hw142
    refine V.iret h hR dX3_doCommand_145 ?_
    rw [show cDo P c (S 2) = cCo P (S 2 0) by subst c1_99; rfl]
    exact ⟨rfl, f1, g1, v1, rfl⟩
  refine V.lcase (off := 51) h (103 : Int32) 52 dX3_doCommand_1 (by decide +kernel) (by decide +kernel) rfl (fun c1_103 => ?_) (fun c1_103 => ?_)
  · refine V.aload0 h 53 dX3_doCommand_52 rfl (V.gX3 h 4 56 dX3_doCommand_53 rfl rfl k170 xo rfl (V.aload0 h 57 dX3_doCommand_56 rfl (V.gX3 h 2 60 dX3_doCommand_57 rfl rfl k167 xo rfl (V.iconst h 61 dX3_doCommand_60 rfl ic1_0 (V.ialdN (i := 0) h 62 dX3_doCommand_61 rfl xa2 (by omega) (by decide) (V.callNe (As := [.int _]) (st := []) h 65 dX3_doCommand_62 rfl k241 k525 k240 ks2 k4 hd_X0_addProject ⟨(Nat.le_of_ble_eq_true rfl), (Nat.le_of_ble_eq_true rfl)⟩ (Nat.le_of_ble_eq_true rfl) (cto hck) rfl rfl ⟨Nat.zero_le _, Nat.zero_le _⟩ (c_X0_addProject hck hn h4) rfl (fun w62 hw62 => ?_)))))))
    obtain ⟨f1, g1, v1, rfl⟩ := hw62
    refine V.iret h hR dX3_doCommand_65 ?_
    rw [show cDo P c (S 2) = cAdd P (S 2 0) by unfold cDo; rw [if_pos c1_103]]
    exact ⟨rfl, f1, g1, v1, rfl⟩
  refine V.lcase (off := 65) h (104 : Int32) 66 dX3_doCommand_1 (by decide +kernel) (by decide +kernel) rfl (fun c1_104 => ?_) (fun c1_104 => ?_)
  · refine V.aload0 h 67 dX3_doCommand_66 rfl (V.gX3 h 4 70 dX3_doCommand_67 rfl rfl k170 xo rfl (V.aload0 h 71 dX3_doCommand_70 rfl (V.gX3 h 2 74 dX3_doCommand_71 rfl rfl k167 xo rfl (V.iconst h 75 dX3_doCommand_74 rfl ic1_0 (V.ialdN (i := 0) h 76 dX3_doCommand_75 rfl xa2 (by omega) (by decide) (V.callNe (As := [.int _]) (st := []) h 79 dX3_doCommand_76 rfl k257 k526 k256 ks5 k4 hd_X0_addPerson ⟨(Nat.le_of_ble_eq_true rfl), (Nat.le_of_ble_eq_true rfl)⟩ (Nat.le_of_ble_eq_true rfl) (cto hck) rfl rfl ⟨Nat.zero_le _, Nat.zero_le _⟩ (c_X0_addPerson hck hq h8) rfl (fun w76 hw76 => ?_)))))))
    obtain ⟨f1, g1, v1, rfl⟩ := hw76
    refine V.iret h hR dX3_doCommand_79 ?_
    rw [show cDo P c (S 2) = cCome P (S 2 0) by unfold cDo; rw [if_neg c1_103, if_pos c1_104]]
    exact ⟨rfl, f1, g1, v1, rfl⟩
  refine V.lcase (off := 79) h (112 : Int32) 80 dX3_doCommand_1 (by decide +kernel) (by decide +kernel) rfl (fun c1_112 => ?_) (fun c1_112 => ?_)
  · refine V.aload0 h 81 dX3_doCommand_80 rfl (V.gX3 h 4 84 dX3_doCommand_81 rfl rfl k170 xo rfl (V.aload0 h 85 dX3_doCommand_84 rfl (V.gX3 h 2 88 dX3_doCommand_85 rfl rfl k167 xo rfl (V.iconst h 89 dX3_doCommand_88 rfl ic1_0 (V.ialdN (i := 0) h 90 dX3_doCommand_89 rfl xa2 (by omega) (by decide) (V.aload0 h 91 dX3_doCommand_90 rfl (V.gX3 h 2 94 dX3_doCommand_91 rfl rfl k167 xo rfl ?_)))))))
    refine V.iconst h 95 dX3_doCommand_94 rfl ic1_1 (V.ialdN (i := 1) h 96 dX3_doCommand_95 rfl xa2 (by omega) (by decide) (V.aload0 h 97 dX3_doCommand_96 rfl (V.gX3 h 2 100 dX3_doCommand_97 rfl rfl k167 xo rfl (V.iconst h 101 dX3_doCommand_100 rfl ic1_2 (V.ialdN (i := 2) h 102 dX3_doCommand_101 rfl xa2 (by omega) (by decide) (V.aload0 h 103 dX3_doCommand_102 rfl (V.gX3 h 2 106 dX3_doCommand_103 rfl rfl k167 xo rfl ?_)))))))
    refine V.iconst h 107 dX3_doCommand_106 rfl ic1_3 (V.ialdN (i := 3) h 108 dX3_doCommand_107 rfl xa2 (by omega) (by decide) (V.aload0 h 109 dX3_doCommand_108 rfl (V.gX3 h 2 112 dX3_doCommand_109 rfl rfl k167 xo rfl (V.iconst h 113 dX3_doCommand_112 rfl ic1_4 (V.ialdN (i := 4) h 114 dX3_doCommand_113 rfl xa2 (by omega) (by decide) (V.callNe (As := [.int _, .int _, .int _, .int _, .int _]) (st := []) h 117 dX3_doCommand_114 rfl k265 k527 k264 ks6 k4 hd_X0_makePledge ⟨(Nat.le_of_ble_eq_true rfl), (Nat.le_of_ble_eq_true rfl)⟩ (Nat.le_of_ble_eq_true rfl) (cto hck) rfl rfl ⟨Nat.zero_le _, Nat.zero_le _⟩ (c_X0_makePledge hck hn h4 hq h8) rfl (fun w114 hw114 => ?_)))))))
    obtain ⟨f1, g1, v1, rfl⟩ := hw114
    refine V.iret h hR dX3_doCommand_117 ?_
    rw [show cDo P c (S 2) = cMk P (S 2 0) (S 2 1) (S 2 2) (S 2 3) (S 2 4) by unfold cDo; rw [if_neg c1_103, if_neg c1_104, if_pos c1_112]]
    exact ⟨rfl, f1, g1, v1, rfl⟩
  refine V.lcase (off := 117) h (119 : Int32) 118 dX3_doCommand_1 (by decide +kernel) (by decide +kernel) rfl (fun c1_119 => ?_) (fun c1_119 => ?_)
  · refine V.aload0 h 119 dX3_doCommand_118 rfl (V.gX3 h 4 122 dX3_doCommand_119 rfl rfl k170 xo rfl (V.aload0 h 123 dX3_doCommand_122 rfl (V.gX3 h 2 126 dX3_doCommand_123 rfl rfl k167 xo rfl (V.iconst h 127 dX3_doCommand_126 rfl ic1_0 (V.ialdN (i := 0) h 128 dX3_doCommand_127 rfl xa2 (by omega) (by decide) (V.callNe (As := [.int _]) (st := []) h 131 dX3_doCommand_128 rfl k309 k528 k308 ks16 k4 hd_X0_takeBack ⟨(Nat.le_of_ble_eq_true rfl), (Nat.le_of_ble_eq_true rfl)⟩ (Nat.le_of_ble_eq_true rfl) (cto hck) rfl rfl ⟨Nat.zero_le _, Nat.zero_le _⟩ (c_X0_takeBack hck hO) rfl (fun w128 hw128 => ?_)))))))
    obtain ⟨f1, g1, v1, rfl⟩ := hw128
    refine V.iret h hR dX3_doCommand_131 ?_
    rw [show cDo P c (S 2) = cWd P (S 2 0) by unfold cDo; rw [if_neg c1_103, if_neg c1_104, if_neg c1_112, if_pos c1_119]]
    exact ⟨rfl, f1, g1, v1, rfl⟩
  refine V.ldflt h 146 dX3_doCommand_1 (by decide +kernel) (by show Op.lookupswitch.offset [(99, 131), (103, 51), (104, 65), (112, 79), (119, 117)] _ _ = _; rw [lv_osw c1_99 (by decide)]; rw [lv_osw c1_103 (by decide)]; rw [lv_osw c1_104 (by decide)]; rw [lv_osw c1_112 (by decide)]; rw [lv_osw c1_119 (by decide)]; rfl) rfl ?_
  refine V.iconst h 147 dX3_doCommand_146 rfl ic1_m1 ?_
  refine V.iret h hR dX3_doCommand_147 ?_
  rw [show cDo P c (S 2) = (-1, P) by unfold cDo; rw [if_neg c1_103, if_neg c1_104, if_neg c1_112, if_neg c1_119, if_neg c1_99]]
  exact ⟨rfl, f, g, v, rfl⟩
/-- all commands from p on: how many, the place, the fault -/
def cRn (T : Nat → Int32) (n : Nat) : Nat → Nat → Nat → Pl → (Nat → Int32) → Nat × Pl × Int32 × Int32 × Int32
  | 0, _, m, P, _ => (m, P, -4, -4, -4)
  | f + 1, p, m, P, N =>
    if p < n then
      (if cF T n p = false then (m, P, nI p, 1, -4)
       else if (cDo P (chM T n p) (cN T n p N)).1 < 0 then (m, (cDo P (chM T n p) (cN T n p N)).2, nI p, 2, (cDo P (chM T n p) (cN T n p N)).1)
       else cRn T n f (cP T n p) (m + 1) (cDo P (chM T n p) (cN T n p N)).2 (cN T n p N))
    else (m, P, -4, -4, -4)
theorem c_X2_copyx {w : Wd} {s p : Nat} {P Q S : Pl} {f g : Nat → Int32} {v : Int32} (hQ : PlaceAt w p Q) (hd : p + 10 ≤ s ∨ s + 17 ≤ p) : K_X2_copyFrom [.ref (s + 3), .ref p] (xs w s P f g v S) (RV (xs w s Q f g v S)) := by
  rw [show xs w s P f g v S = ps (jt (ss w s S) (s + 3) (s + 14) f g v) (s + 3) P from ct_eq (by omega), show xs w s Q f g v S = ps (jt (ss w s S) (s + 3) (s + 14) f g v) (s + 3) Q from ct_eq (by omega)]
  refine c_X2_copyFrom (RA.rs (RA.rs hQ ?_) ?_) ?_
  · omega
  · omega
  · omega
/-- what a try leaves of the script -/
def Trd (T : Nat → Int32) (n : Nat) (S S' : Pl) (r : Nat × Pl × Int32 × Int32 × Int32) : Prop := S' 0 = S 0 ∧ S' 1 = S 1 ∧ S' 5 0 = nI r.1 ∧ S' 6 0 = r.2.2.1 ∧ S' 7 0 = r.2.2.2.1 ∧ S' 8 0 = r.2.2.2.2
theorem c_X3_tryOn {w : Wd} {s p n : Nat} {P Q S : Pl} {f g : Nat → Int32} {v : Int32} (hX : XK w s) (hQ : PlaceAt w p Q) (hd : p + 10 ≤ s ∨ s + 17 ≤ p) (hT : TOK S n) (I : Pl → Prop) (hI : ∀ P, I P → cPre P) (hst : ∀ P c N, I P → I (cDo P c N).2) (hs : I Q) :
    K_X3_tryOn [.ref s, .ref p] (xs w s P f g v S) (RVE (fun u => ∃ f g v S', Trd (S 0) n S S' (cRn (S 0) n (n + 1) 0 0 Q (S 2)) ∧ u = xs w s (cRn (S 0) n (n + 1) 0 0 Q (S 2)).2.1 f g v S')) := by
  refine Con.mk [some (.ref s), some (.ref p), none, none, none] (by decide) rfl rfl (Nat.le_of_ble_eq_true rfl) (fun X h hR hnm => ?_)
  obtain ⟨r, hr⟩ : ∃ r, r = cRn (S 0) n (n + 1) 0 0 Q (S 2) := ⟨_, rfl⟩
  rw [← hr] at hR
  have h80 := hT.2.1
  have L : ∀ (fu pos m : Nat) (P S' : Pl) (f g : Nat → Int32) (v : Int32) (u1 u2 : Option Value), I P → m ≤ pos → pos < 200 → n < pos + fu → S' 0 = S 0 → S' 1 = S 1 → S' 5 0 = nI m → S' 6 0 = -4 → S' 7 0 = -4 → S' 8 0 = -4 → r = cRn (S 0) n fu pos m P (S' 2) →
      V X 0 0 25 [some (.ref s), some (.ref p), some (.int (nI pos)), u1, u2] [] (xs w s P f g v S') := by
    intro fu
    induction fu with
    | zero =>
      intro pos m P S' f g v u1 u2 hIs hm hp hf e0 e1 e5 e6 e7 e8 hr
      have hr : r = (m, P, -4, -4, -4) := hr
      have h1 : S' 1 0 = nI n := by rw [e1]; exact hT.1
      refine V.iload2 h 26 dX3_tryOn_25 rfl (V.aload0 h 27 dX3_tryOn_26 rfl (V.gX3 h 1 30 dX3_tryOn_27 rfl rfl k165 xo rfl ?_))
      rw [h1]
      refine V.icmp_ge h 102 33 dX3_tryOn_30 rfl rfl (fun _ => ?_) (fun q => absurd (nI_le (show n ≤ pos by omega) (by omega)) q)
      refine V.vret h hR dX3_tryOn_102 ?_
      rw [hr]; exact ⟨rfl, f, g, v, S', ⟨e0, e1, e5, e6, e7, e8⟩, rfl⟩
    | succ fu ih =>
      intro pos m P S' f g v u1 u2 hIs hm hp hf e0 e1 e5 e6 e7 e8 hr
      rw [cRn] at hr
      have h1 : S' 1 0 = nI n := by rw [e1]; exact hT.1
      have hT' : TOK S' n := ⟨h1, h80, by rw [e0]; exact hT.2.2⟩
      by_cases hpn : pos < n
      · rw [if_pos hpn] at hr
        have hrc := c_X3_readCommand (w := w) (s := s) (P := P) (f := f) (g := g) (v := v) hT' hpn
        rw [e0] at hrc
        obtain ⟨g1, g2⟩ := cP_gt (S 0) n pos
        cases hF : cF (S 0) n pos
        · rw [if_pos hF] at hr
          rw [hF, if_neg Bool.false_ne_true] at hrc
          refine V.iload2 h 26 dX3_tryOn_25 rfl (V.aload0 h 27 dX3_tryOn_26 rfl (V.gX3 h 1 30 dX3_tryOn_27 rfl rfl k165 xo rfl ?_))
          rw [h1]
          refine V.icmp_ge h 102 33 dX3_tryOn_30 rfl rfl (fun q => absurd q (nI_ge hpn (by omega))) (fun _ => ?_)
          refine V.aload0 h 34 dX3_tryOn_33 rfl (V.gX3 h 5 37 dX3_tryOn_34 rfl rfl k171 xo rfl ?_)
          rw [e5]
          refine V.bipush h 39 dX3_tryOn_37 rfl ic2_80 ?_
          refine V.icmp_ge h 102 42 dX3_tryOn_39 rfl rfl (fun q => absurd q (lp_in (n := 80) (by omega))) (fun _ => ?_)
          refine V.aload0 h 43 dX3_tryOn_42 rfl (V.iload2 h 44 dX3_tryOn_43 rfl (V.callVe (As := [.int _]) (st := []) h 47 dX3_tryOn_44 rfl k508 k505 k507 ks47 k5 hd_X3_readCommand ⟨(Nat.le_of_ble_eq_true rfl), (Nat.le_of_ble_eq_true rfl)⟩ (Nat.le_of_ble_eq_true rfl) xo rfl rfl ⟨Nat.zero_le _, Nat.zero_le _⟩ hrc rfl (fun w44 hw44 => ?_)))
          obtain ⟨N, -, rfl⟩ := hw44
          refine V.istore3 h 48 dX3_tryOn_47 rfl rfl (V.iload3 h 49 dX3_tryOn_48 rfl (V.iconst h 50 dX3_tryOn_49 rfl ic1_m1 ?_))
          refine V.icmp_ne h 62 53 dX3_tryOn_50 rfl rfl (fun q => absurd rfl q) (fun _ => ?_)
          refine V.aload0 h 54 dX3_tryOn_53 rfl (V.iload2 h 55 dX3_tryOn_54 rfl (V.iconst h 56 dX3_tryOn_55 rfl ic1_1 (V.bipush h 58 dX3_tryOn_56 rfl ic2_m4 (V.callVfv (As := [.int _, .int _, .int _]) (st := []) h 61 dX3_tryOn_58 rfl k504 k501 k503 ks46 k5 hd_X3_tellFault ⟨(Nat.le_of_ble_eq_true rfl), (Nat.le_of_ble_eq_true rfl)⟩ (Nat.le_of_ble_eq_true rfl) xo rfl rfl ⟨Nat.zero_le _, Nat.zero_le _⟩ c_X3_tellFault rfl ?_))))
          refine V.vret h hR dX3_tryOn_61 ?_
          rw [hr]; exact ⟨rfl, f, g, v, tel (ua S' 2 N) (nI pos) 1 (-4), ⟨e0, e1, e5, rfl, rfl, rfl⟩, rfl⟩
        · rw [if_neg (fun q => absurd (hF.symm.trans q) (by decide))] at hr
          rw [hF, if_pos rfl] at hrc
          have ech : chS (S 0) n pos = chM (S 0) n pos := by unfold chS chM; rw [if_pos hpn, if_pos hpn]
          have hsg := fun (S2 : Pl) (hT2 : TOK S2 n) (e : S2 0 = S 0) => show K_X3_signAt [.ref s, .int (nI pos)] (xs w s P f g v S2) (RI (chM (S 0) n pos) (xs w s P f g v S2)) by
            have h0 := c_X3_signAt (w := w) (s := s) (P := P) (f := f) (g := g) (v := v) hT2 (show pos < 2 ^ 31 by omega)
            rw [e, ech] at h0
            exact h0
          refine V.iload2 h 26 dX3_tryOn_25 rfl (V.aload0 h 27 dX3_tryOn_26 rfl (V.gX3 h 1 30 dX3_tryOn_27 rfl rfl k165 xo rfl ?_))
          rw [h1]
          refine V.icmp_ge h 102 33 dX3_tryOn_30 rfl rfl (fun q => absurd q (nI_ge hpn (by omega))) (fun _ => ?_)
          refine V.aload0 h 34 dX3_tryOn_33 rfl (V.gX3 h 5 37 dX3_tryOn_34 rfl rfl k171 xo rfl ?_)
          rw [e5]
          refine V.bipush h 39 dX3_tryOn_37 rfl ic2_80 ?_
          refine V.icmp_ge h 102 42 dX3_tryOn_39 rfl rfl (fun q => absurd q (lp_in (n := 80) (by omega))) (fun _ => ?_)
          refine V.aload0 h 43 dX3_tryOn_42 rfl (V.iload2 h 44 dX3_tryOn_43 rfl (V.callVe (As := [.int _]) (st := []) h 47 dX3_tryOn_44 rfl k508 k505 k507 ks47 k5 hd_X3_readCommand ⟨(Nat.le_of_ble_eq_true rfl), (Nat.le_of_ble_eq_true rfl)⟩ (Nat.le_of_ble_eq_true rfl) xo rfl rfl ⟨Nat.zero_le _, Nat.zero_le _⟩ hrc rfl (fun w44 hw44 => ?_)))
          obtain ⟨N, hN, rfl⟩ := hw44
          obtain rfl := hN rfl
          refine V.istore3 h 48 dX3_tryOn_47 rfl rfl (V.iload3 h 49 dX3_tryOn_48 rfl (V.iconst h 50 dX3_tryOn_49 rfl ic1_m1 ?_))
          refine V.icmp_ne h 62 53 dX3_tryOn_50 rfl rfl (fun _ => ?_) (fun q => absurd q (show ¬ nI (cP (S 0) n pos) = -1 from fun q => absurd (show nI (cP (S 0) n pos) < 0 by rw [q]; decide) (nI_pos (by omega))))
          refine V.aload0 h 63 dX3_tryOn_62 rfl (V.aload0 h 64 dX3_tryOn_63 rfl (V.iload2 h 65 dX3_tryOn_64 rfl (V.callVf (As := [.int _]) (st := [.ref _]) h 68 dX3_tryOn_65 rfl k512 k509 k511 ks48 k5 hd_X3_signAt ⟨(Nat.le_of_ble_eq_true rfl), (Nat.le_of_ble_eq_true rfl)⟩ (Nat.le_of_ble_eq_true rfl) xo rfl rfl ⟨Nat.zero_le _, Nat.zero_le _⟩ (hsg _ hT' e0) rfl (V.callVe (As := [.int _]) (st := []) h 71 dX3_tryOn_68 rfl k524 k521 k523 ks51 k5 hd_X3_doCommand ⟨(Nat.le_of_ble_eq_true rfl), (Nat.le_of_ble_eq_true rfl)⟩ (Nat.le_of_ble_eq_true rfl) xo rfl rfl ⟨Nat.zero_le _, Nat.zero_le _⟩ (c_X3_doCommand hX (hI P hIs)) rfl (fun w68 hw68 => ?_)))))
          obtain ⟨f1, g1, v1, rfl⟩ := hw68
          refine V.istore4 h 73 dX3_tryOn_71 rfl rfl (V.iload4 h 75 dX3_tryOn_73 rfl ?_)
          refine V.if_ge h 87 78 dX3_tryOn_75 rfl rfl (fun c75 => ?_) (fun c75 => ?_)
          · refine V.aload0 h 88 dX3_tryOn_87 rfl (V.dup h 89 dX3_tryOn_88 rfl rfl (V.gX3 h 5 92 dX3_tryOn_89 rfl rfl k171 xo rfl (V.iconst h 93 dX3_tryOn_92 rfl ic1_1 (V.iadd h 94 dX3_tryOn_93 rfl (V.sX3 h 5 97 dX3_tryOn_94 rfl rfl k171 rfl rfl rfl xo rfl (V.at _ xp5 (V.iload3 h 98 dX3_tryOn_97 rfl ?_)))))))
            refine V.istore2 h 99 dX3_tryOn_98 rfl rfl (V.goto h 25 dX3_tryOn_99 rfl ?_)
            rw [if_neg (show ¬ (cDo P (chM (S 0) n pos) (cN (S 0) n pos (S' 2))).1 < 0 from le_n c75)] at hr
            refine ih (cP (S 0) n pos) (m + 1) _ _ _ _ _ _ _ (hst _ _ _ hIs) (by omega) (by omega) (by omega) e0 e1 ?_ e6 e7 e8 hr
            show (ua S' 2 _) 5 0 + 1 = _
            rw [show (ua S' 2 (cN (S 0) n pos (S' 2))) 5 0 = nI m from e5, ← nI_succ]
          · refine V.aload0 h 79 dX3_tryOn_78 rfl (V.iload2 h 80 dX3_tryOn_79 rfl (V.iconst h 81 dX3_tryOn_80 rfl ic1_2 (V.iload4 h 83 dX3_tryOn_81 rfl (V.callVfv (As := [.int _, .int _, .int _]) (st := []) h 86 dX3_tryOn_83 rfl k504 k501 k503 ks46 k5 hd_X3_tellFault ⟨(Nat.le_of_ble_eq_true rfl), (Nat.le_of_ble_eq_true rfl)⟩ (Nat.le_of_ble_eq_true rfl) xo rfl rfl ⟨Nat.zero_le _, Nat.zero_le _⟩ c_X3_tellFault rfl ?_))))
            refine V.vret h hR dX3_tryOn_86 ?_
            rw [hr, if_pos (show (cDo P (chM (S 0) n pos) (cN (S 0) n pos (S' 2))).1 < 0 from nle c75)]
            exact ⟨rfl, f1, g1, v1, tel (ua S' 2 (cN (S 0) n pos (S' 2))) (nI pos) 2 (cDo P (chM (S 0) n pos) (cN (S 0) n pos (S' 2))).1, ⟨e0, e1, e5, rfl, rfl, rfl⟩, rfl⟩
      · rw [if_neg hpn] at hr
        refine V.iload2 h 26 dX3_tryOn_25 rfl (V.aload0 h 27 dX3_tryOn_26 rfl (V.gX3 h 1 30 dX3_tryOn_27 rfl rfl k165 xo rfl ?_))
        rw [h1]
        refine V.icmp_ge h 102 33 dX3_tryOn_30 rfl rfl (fun _ => ?_) (fun q => absurd (nI_le (show n ≤ pos by omega) (by omega)) q)
        refine V.vret h hR dX3_tryOn_102 ?_
        rw [hr]; exact ⟨rfl, f, g, v, S', ⟨e0, e1, e5, e6, e7, e8⟩, rfl⟩
  refine V.aload0 h 1 dX3_tryOn_0 rfl (V.gX3 h 3 4 dX3_tryOn_1 rfl rfl k168 xo rfl (V.aload1 h 5 dX3_tryOn_4 rfl (V.callNfv (As := [.ref _]) (st := []) h 8 dX3_tryOn_5 rfl k234 k500 k233 ks1 k2 hd_X2_copyFrom ⟨(Nat.le_of_ble_eq_true rfl), (Nat.le_of_ble_eq_true rfl)⟩ (Nat.le_of_ble_eq_true rfl) xP.po rfl rfl ⟨Nat.zero_le _, Nat.zero_le _⟩ (c_X2_copyx hQ hd) rfl (V.aload0 h 9 dX3_tryOn_8 rfl (V.iconst h 10 dX3_tryOn_9 rfl ic1_0 (V.sX3 h 5 13 dX3_tryOn_10 rfl rfl k171 rfl rfl rfl xo rfl (V.at _ xp5 ?_)))))))
  refine V.aload0 h 14 dX3_tryOn_13 rfl (V.bipush h 16 dX3_tryOn_14 rfl ic2_m4 (V.bipush h 18 dX3_tryOn_16 rfl ic2_m4 (V.bipush h 20 dX3_tryOn_18 rfl ic2_m4 (V.callVfv (As := [.int _, .int _, .int _]) (st := []) h 23 dX3_tryOn_20 rfl k504 k501 k503 ks46 k5 hd_X3_tellFault ⟨(Nat.le_of_ble_eq_true rfl), (Nat.le_of_ble_eq_true rfl)⟩ (Nat.le_of_ble_eq_true rfl) xo rfl rfl ⟨Nat.zero_le _, Nat.zero_le _⟩ c_X3_tellFault rfl (V.iconst h 24 dX3_tryOn_23 rfl ic1_0 (V.istore2 h 25 dX3_tryOn_24 rfl rfl ?_))))))
  exact L (n + 1) 0 0 Q _ f g v none none hs (Nat.le_refl _) (by omega) (by omega) rfl rfl rfl rfl rfl rfl hr
