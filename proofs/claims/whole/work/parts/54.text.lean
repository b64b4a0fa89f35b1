/-! the class: texts -/
def cTy (S : Pl) (l : Nat) (y : Int32) : Int32 × Pl := if rng 32 y 126 = true then (if l = 80 then (-3, S) else (nI (l + 1), us (ua S 0 (upd (S 0) l y)) 1 (nI (l + 1)))) else (-1, S)
theorem i2c_ch : ∀ x, x < 127 → ((nI x).toUInt32 % 65536).toInt32 = nI x := by decide +kernel
theorem c_X4_type {w : Wd} {c n l : Nat} {P S : Pl} {σ : Nat → Nat} {H : Nat → Pl} {y : Int32} (hC : CI w c n P S σ H) (hT : TOK S l) : K_X4_type [.ref c, .int y] w (RE (cTy S l y).1 (fun u => CJ u c n P (cTy S l y).2 H ∧ Fr c w u)) := by
  refine Con.mk [some (.ref c), some (.int y)] (by decide) rfl rfl (Nat.le_of_ble_eq_true rfl) (fun X h hR hnm => ?_)
  by_cases hr : rng 32 y 126 = true
  · obtain ⟨x, hx, rfl⟩ : ∃ x, x < 127 ∧ y = nI x := by
      unfold rng at hr
      rw [Bool.and_eq_true] at hr
      obtain ⟨x, hx, e⟩ := nI_of (x := y) (fun q => absurd (Int32.lt_of_lt_of_le q (by decide : (0 : Int32) ≤ 32)) (le_n (of_decide_eq_true hr.1)))
      refine ⟨x, ?_, e⟩
      have h1 := of_decide_eq_true hr.2
      rw [e] at h1
      have := (nI_leI (a := x) (b := 126) hx (by decide)).mp h1
      omega
    have e : cTy S l (nI x) = ((if l = 80 then -3 else nI (l + 1)), (if l = 80 then S else us (ua S 0 (upd (S 0) l (nI x))) 1 (nI (l + 1)))) := by
      unfold cTy
      rw [if_pos hr]
      by_cases h : l = 80
      · rw [if_pos h, if_pos h, if_pos h]
      · rw [if_neg h, if_neg h, if_neg h]
    unfold rng at hr
    rw [Bool.and_eq_true] at hr
    obtain ⟨Px, f, g, v, ew⟩ := hC.idx
    have hx1 := hC.xs (Px := Px) (f := f) (g := g) (v := v) (S' := S)
    have hx2 := hC.xs (Px := Px) (f := f) (g := g) (v := v) (S' := if l = 80 then S else us (ua S 0 (upd (S 0) l (nI x))) 1 (nI (l + 1)))
    refine V.iload1 h 1 dX4_type_0 rfl (V.bipush h 3 dX4_type_1 rfl ic2_32 ?_)
    refine V.icmp_lt h 12 6 dX4_type_3 rfl rfl (fun q => absurd q (le_n (of_decide_eq_true hr.1))) (fun _ => ?_)
    refine V.iload1 h 7 dX4_type_6 rfl (V.bipush h 9 dX4_type_7 rfl ic2_126 ?_)
    refine V.icmp_le h 14 12 dX4_type_9 rfl rfl (fun _ => ?_) (fun q => absurd (of_decide_eq_true hr.2) q)
    refine V.at _ ew ?_
    refine V.aload0 h 15 dX4_type_14 rfl (V.gX4 h 3 18 dX4_type_15 rfl rfl k203 hx1.1.ob rfl (V.iload1 h 19 dX4_type_18 rfl (V.i2c h 20 dX4_type_19 rfl ?_)))
    rw [i2c_ch x hx]
    refine V.callNf (As := [.int _]) (st := []) h 23 dX4_type_20 rfl k483 k480 k482 ks43 k5 hd_X3_append ⟨(Nat.le_of_ble_eq_true rfl), (Nat.le_of_ble_eq_true rfl)⟩ (Nat.le_of_ble_eq_true rfl) xo rfl rfl ⟨Nat.zero_le _, Nat.zero_le _⟩ (c_X3_append hT hx) rfl ?_
    refine V.iret h hR dX4_type_23 ?_
    rw [e]
    exact ⟨rfl, ⟨σ, hx2.1⟩, hx2.2⟩
  · have hr : rng 32 y 126 = false := by simpa using hr
    refine V.iload1 h 1 dX4_type_0 rfl (V.bipush h 3 dX4_type_1 rfl ic2_32 ?_)
    refine V.icmp_lt h 12 6 dX4_type_3 rfl rfl (fun c3 => ?_) (fun c3 => ?_)
    · refine V.iconst h 13 dX4_type_12 rfl ic1_m1 ?_
      refine V.iret h hR dX4_type_13 ?_
      rw [show cTy S l y = (-1, S) by unfold cTy; rw [hr]; rfl]
      exact ⟨rfl, ⟨σ, hC⟩, Fr.rf⟩
    · refine V.iload1 h 7 dX4_type_6 rfl (V.bipush h 9 dX4_type_7 rfl ic2_126 ?_)
      refine V.icmp_le h 14 12 dX4_type_9 rfl rfl (fun c9 => ?_) (fun c9 => ?_)
      · exact absurd (rng_t (show ¬ y < 32 from c3) (show y ≤ 126 from c9)) (by rw [hr]; decide)
      · refine V.iconst h 13 dX4_type_12 rfl ic1_m1 ?_
        refine V.iret h hR dX4_type_13 ?_
        rw [show cTy S l y = (-1, S) by unfold cTy; rw [hr]; rfl]
        exact ⟨rfl, ⟨σ, hC⟩, Fr.rf⟩
theorem c_X4_clearText {w : Wd} {c n : Nat} {P S : Pl} {σ : Nat → Nat} {H : Nat → Pl} (hC : CI w c n P S σ H) : K_X4_clearText [.ref c] w (RE (S 1 0) (fun u => CJ u c n P (us S 1 0) H ∧ Fr c w u)) := by
  refine Con.mk [some (.ref c)] (by decide) rfl rfl (Nat.le_of_ble_eq_true rfl) (fun X h hR hnm => ?_)
  obtain ⟨Px, f, g, v, ew⟩ := hC.idx
  have hx1 := hC.xs (Px := Px) (f := f) (g := g) (v := v) (S' := S)
  have hx2 := hC.xs (Px := Px) (f := f) (g := g) (v := v) (S' := us S 1 0)
  refine V.at _ ew ?_
  refine V.aload0 h 1 dX4_clearText_0 rfl (V.gX4 h 3 4 dX4_clearText_1 rfl rfl k203 hx1.1.ob rfl (V.callNf (As := []) (st := []) h 7 dX4_clearText_4 rfl k491 k488 k490 ks44 k5 hd_X3_empty ⟨(Nat.le_of_ble_eq_true rfl), (Nat.le_of_ble_eq_true rfl)⟩ (Nat.le_of_ble_eq_true rfl) xo rfl rfl ⟨Nat.zero_le _, Nat.zero_le _⟩ c_X3_empty rfl ?_))
  refine V.iret h hR dX4_clearText_7 ?_
  exact ⟨rfl, ⟨σ, hx2.1⟩, hx2.2⟩
def cTr (S : Pl) (l : Nat) (P : Pl) : Nat × Pl × Int32 × Int32 × Int32 := cRn (S 0) l (l + 1) 0 0 P (S 2)
theorem cRn_le (T : Nat → Int32) (n : Nat) : ∀ (f p m : Nat) (P : Pl) (N : Nat → Int32), (cRn T n f p m P N).1 ≤ m + f
  | 0, _, m, _, _ => Nat.le_refl _
  | f + 1, p, m, P, N => by
    rw [cRn]
    by_cases h1 : p < n
    · rw [if_pos h1]
      by_cases h2 : cF T n p = false
      · rw [if_pos h2]; show m ≤ _; omega
      · rw [if_neg h2]
        by_cases h3 : (cDo P (chM T n p) (cN T n p N)).1 < 0
        · rw [if_pos h3]; show m ≤ _; omega
        · rw [if_neg h3]
          have := cRn_le T n f (cP T n p) (m + 1) (cDo P (chM T n p) (cN T n p N)).2 (cN T n p N)
          omega
    · rw [if_neg h1]; show m ≤ _; omega
def cFa (S : Pl) (l : Nat) (P : Pl) (what : Int32) : Int32 :=
  if rng 0 what 2 = true then (if what = 0 then (cTr S l P).2.2.1 else if what = 1 then (cTr S l P).2.2.2.1 else (cTr S l P).2.2.2.2) else -1
theorem c_X4_fault {w : Wd} {c n l : Nat} {P S : Pl} {σ : Nat → Nat} {H : Nat → Pl} {what : Int32} (hC : CI w c n P S σ H) (hT : TOK S l) (I : Pl → Prop) (hI : ∀ P, I P → cPre P) (hst : ∀ P c N, I P → I (cDo P c N).2) (hs : I P) :
    K_X4_fault [.ref c, .int what] w (RE (cFa S l P what) (fun u => ∃ S', S' 0 = S 0 ∧ S' 1 = S 1 ∧ CJ u c n P S' H ∧ Fr c w u)) := by
  refine Con.mk [some (.ref c), some (.int what)] (by decide) rfl rfl (Nat.le_of_ble_eq_true rfl) (fun X h hR hnm => ?_)
  obtain ⟨r, hr⟩ : ∃ r, r = cTr S l P := ⟨_, rfl⟩
  have hq : rng 0 what 2 = true → cFa S l P what = (if what = 0 then r.2.2.1 else if what = 1 then r.2.2.2.1 else r.2.2.2.2) := fun h => by unfold cFa; rw [if_pos h, hr]
  obtain ⟨Px, f, g, v, ew⟩ := hC.idx
  have hx1 := hC.xs (Px := Px) (f := f) (g := g) (v := v) (S' := S)
  have htr := c_X3_tryOn (w := w) (s := c + 15) (p := c + 1) (P := Px) (f := f) (g := g) (v := v) hC.2.2.2.2.2.2.1 hC.2.1 (by omega) hT I hI hst hs
  rw [show cRn (S 0) l (l + 1) 0 0 P (S 2) = r from hr.symm] at htr
  have K : ∀ (f1 g1 : Nat → Int32) (v1 : Int32) (S1 : Pl), Trd (S 0) l S S1 r → rng 0 what 2 = true → V X 0 0 22 [some (.ref c), some (.int what)] [] (xs w (c + 15) r.2.1 f1 g1 v1 S1) := by
    intro f1 g1 v1 S1 hTr h2
    have hx3 := hC.xs (Px := r.2.1) (f := f1) (g := g1) (v := v1) (S' := S1)
    have hq := hq h2
    obtain ⟨e0, e1, e5, e6, e7, e8⟩ := hTr
    have fin : ∀ z : Int32, cFa S l P what = z → RE (cFa S l P what) (fun u => ∃ S', S' 0 = S 0 ∧ S' 1 = S 1 ∧ CJ u c n P S' H ∧ Fr c w u) (some (.int z)) (xs w (c + 15) r.2.1 f1 g1 v1 S1) := by
      intro z hz
      rw [hz]
      exact ⟨rfl, S1, e0, e1, ⟨σ, hx3.1⟩, hx3.2⟩
    refine V.iload1 h 23 dX4_fault_22 rfl ?_
    refine V.lcase (off := 25) h (0 : Int32) 48 dX4_fault_23 (by decide +kernel) (by decide +kernel) rfl (fun c23_0 => ?_) (fun c23_0 => ?_)
    · refine V.aload0 h 49 dX4_fault_48 rfl (V.gX4 h 3 52 dX4_fault_49 rfl rfl k203 hx3.1.ob rfl (V.gX3N h 6 55 dX4_fault_52 rfl rfl k174 xo rfl ?_))
      refine V.iret h hR dX4_fault_55 ?_
      exact fin _ (by rw [hq, if_pos c23_0, e6])
    refine V.lcase (off := 33) h (1 : Int32) 56 dX4_fault_23 (by decide +kernel) (by decide +kernel) rfl (fun c23_1 => ?_) (fun c23_1 => ?_)
    · refine V.aload0 h 57 dX4_fault_56 rfl (V.gX4 h 3 60 dX4_fault_57 rfl rfl k203 hx3.1.ob rfl (V.gX3N h 7 63 dX4_fault_60 rfl rfl k176 xo rfl ?_))
      refine V.iret h hR dX4_fault_63 ?_
      exact fin _ (by rw [hq, if_neg c23_0, if_pos c23_1, e7])
    refine V.ldflt h 64 dX4_fault_23 (by decide +kernel) (by show Op.lookupswitch.offset [(0, 25), (1, 33)] _ _ = _; rw [lv_osw c23_0 (by decide)]; rw [lv_osw c23_1 (by decide)]; rfl) rfl ?_
    refine V.aload0 h 65 dX4_fault_64 rfl (V.gX4 h 3 68 dX4_fault_65 rfl rfl k203 hx3.1.ob rfl (V.gX3N h 8 71 dX4_fault_68 rfl rfl k178 xo rfl ?_))
    refine V.iret h hR dX4_fault_71 ?_
    exact fin _ (by rw [hq, if_neg c23_0, if_neg c23_1, e8])
  refine V.iload1 h 1 dX4_fault_0 rfl ?_
  refine V.if_lt h 9 4 dX4_fault_1 rfl rfl (fun c1 => ?_) (fun c1 => ?_)
  · refine V.iconst h 10 dX4_fault_9 rfl ic1_m1 ?_
    refine V.iret h hR dX4_fault_10 ?_
    first | (rw [show cFa S l P what = -1 by unfold cFa; rw [rng_f1 c1]; rfl]; exact ⟨rfl, S, rfl, rfl, ⟨σ, hC⟩, Fr.rf⟩) | (rw [show cFa S l P what = -1 by unfold cFa; rw [rng_f2 c6]; rfl]; exact ⟨rfl, S, rfl, rfl, ⟨σ, hC⟩, Fr.rf⟩)
  · refine V.iload1 h 5 dX4_fault_4 rfl (V.iconst h 6 dX4_fault_5 rfl ic1_2 ?_)
    refine V.icmp_le h 11 9 dX4_fault_6 rfl rfl (fun c6 => ?_) (fun c6 => ?_)
    · refine V.at _ ew ?_
      refine V.aload0 h 12 dX4_fault_11 rfl (V.gX4 h 3 15 dX4_fault_12 rfl rfl k203 hx1.1.ob rfl (V.aload0 h 16 dX4_fault_15 rfl (V.gX4 h 0 19 dX4_fault_16 rfl rfl k200 hx1.1.ob rfl (V.callNev (As := [.ref _]) (st := []) h 22 dX4_fault_19 rfl k499 k496 k498 ks45 k5 hd_X3_tryOn ⟨(Nat.le_of_ble_eq_true rfl), (Nat.le_of_ble_eq_true rfl)⟩ (Nat.le_of_ble_eq_true rfl) xo rfl rfl ⟨Nat.zero_le _, Nat.zero_le _⟩ htr rfl (fun w19 hw19 => ?_)))))
      obtain ⟨f1, g1, v1, S1, hTr, rfl⟩ := hw19
      exact K f1 g1 v1 S1 hTr (rng_t c1 c6)
    · refine V.iconst h 10 dX4_fault_9 rfl ic1_m1 ?_
      refine V.iret h hR dX4_fault_10 ?_
      first | (rw [show cFa S l P what = -1 by unfold cFa; rw [rng_f1 c1]; rfl]; exact ⟨rfl, S, rfl, rfl, ⟨σ, hC⟩, Fr.rf⟩) | (rw [show cFa S l P what = -1 by unfold cFa; rw [rng_f2 c6]; rfl]; exact ⟨rfl, S, rfl, rfl, ⟨σ, hC⟩, Fr.rf⟩)
theorem c_X4_keep {w : Wd} {c n : Nat} {P S : Pl} {σ : Nat → Nat} {H : Nat → Pl} (hC : CI w c n P S σ H) (hn : n ≤ 4) : K_X4_keepState [.ref c] w (RV (ps w (sA c σ n) P)) := by
  refine Con.mk [some (.ref c)] (by decide) rfl rfl (Nat.le_of_ble_eq_true rfl) (fun X h hR hnm => ?_)
  have hd : sA c σ n + 10 ≤ c + 1 ∨ c + 1 + 10 ≤ sA c σ n := by unfold sA; omega
  have hcp := c_X2_copyFrom (w := w) (p := sA c σ n) (P := H n) hC.2.1 hd
  rw [← hC.idh (show n < 5 by omega)] at hcp
  refine V.aload0 h 1 dX4_keepState_0 rfl (V.gX4 h 4 4 dX4_keepState_1 rfl rfl k204 hC.ob rfl (V.aload0 h 5 dX4_keepState_4 rfl (V.gX4 h 5 8 dX4_keepState_5 rfl rfl k205 hC.ob rfl (V.aaldN h 9 dX4_keepState_8 rfl hC.hi (by omega) (by decide) (V.aload0 h 10 dX4_keepState_9 rfl (V.gX4 h 0 13 dX4_keepState_10 rfl rfl k200 hC.ob rfl ?_))))))
  refine V.callNfv (As := [.ref _]) (st := []) h 16 dX4_keepState_13 rfl k234 k231 k233 ks1 k2 hd_X2_copyFrom ⟨(Nat.le_of_ble_eq_true rfl), (Nat.le_of_ble_eq_true rfl)⟩ (Nat.le_of_ble_eq_true rfl) (hC.hp (show n < 5 by omega)).po rfl rfl ⟨Nat.zero_le _, Nat.zero_le _⟩ hcp rfl ?_
  refine V.vret h hR dX4_keepState_16 ?_
  exact ⟨rfl, rfl⟩
def pyR (S : Pl) (l : Nat) (P : Pl) : Bool := decide ((cTr S l P).2.2.2.1 = -4)
theorem c_X4_play {w : Wd} {c n l : Nat} {P S : Pl} {σ : Nat → Nat} {H : Nat → Pl} (hC : CI w c n P S σ H) (hn : n ≤ 4) (hT : TOK S l) (I : Pl → Prop) (hI : ∀ P, I P → cPre P) (hst : ∀ P c N, I P → I (cDo P c N).2) (hs : I P) :
    K_X4_play [.ref c] w (RE (if pyR S l P = true then nI (cTr S l P).1 else -2) (fun u => ∃ S', S' 0 = S 0 ∧ S' 1 = S 1 ∧ CJ u c (if pyR S l P = true then hN n + 1 else n) (if pyR S l P = true then (cTr S l P).2.1 else P) S' (if pyR S l P = true then hH n (uH H n P) else H) ∧ Fr c w u)) := by
  refine Con.mk [some (.ref c)] (by decide) rfl rfl (Nat.le_of_ble_eq_true rfl) (fun X h hR hnm => ?_)
  have hle := cRn_le (S 0) l (l + 1) 0 0 P (S 2)
  unfold pyR at hR
  obtain ⟨r, hr⟩ : ∃ r, r = cTr S l P := ⟨_, rfl⟩
  rw [← hr] at hR
  rw [show cRn (S 0) l (l + 1) 0 0 P (S 2) = r from hr.symm] at hle
  have h80 := hT.2.1
  obtain ⟨Px, f, g, v, ew⟩ := hC.idx
  have hx1 := hC.xs (Px := Px) (f := f) (g := g) (v := v) (S' := S)
  have htr := c_X3_tryOn (w := w) (s := c + 15) (p := c + 1) (P := Px) (f := f) (g := g) (v := v) hC.2.2.2.2.2.2.1 hC.2.1 (by omega) hT I hI hst hs
  rw [show cRn (S 0) l (l + 1) 0 0 P (S 2) = r from hr.symm] at htr
  have K : ∀ (f1 g1 : Nat → Int32) (v1 : Int32) (S1 : Pl), Trd (S 0) l S S1 r → V X 0 0 11 [some (.ref c)] [] (xs w (c + 15) r.2.1 f1 g1 v1 S1) := by
    intro f1 g1 v1 S1 hTr
    have hx3 := hC.xs (Px := r.2.1) (f := f1) (g := g1) (v := v1) (S' := S1)
    obtain ⟨e0, e1, e5, e6, e7, e8⟩ := hTr
    by_cases h7 : r.2.2.2.1 = -4
    · rw [decide_eq_true h7, if_pos rfl, if_pos rfl, if_pos rfl, if_pos rfl] at hR
      have hA : sA c σ n = c + 33 + 10 * σ n := rfl
      obtain ⟨W1, hW1⟩ : ∃ W1, W1 = xs w (c + 15) r.2.1 f1 g1 v1 S1 := ⟨_, rfl⟩
      have hk := c_X4_keep hx3.1 hn
      have hh := hx3.1.his (Q := P) (k := n) (by omega)
      have hout : PlaceAt (ps W1 (sA c σ n) P) (c + 15 + 3) r.2.1 := by rw [hW1]; exact RA.rs xP (by omega)
      have hhf := c_X3_hasFault (w := w) (s := c + 15) (P := r.2.1) (f := f1) (g := g1) (v := v1) (S := S1)
      rw [e7, decide_eq_true h7] at hhf
      rw [← hW1] at hk hh hhf
      have hx3' := hx3
      rw [← hW1] at hx3'
      obtain ⟨W2, hW2⟩ : ∃ W2, W2 = ps W1 (sA c σ n) P := ⟨_, rfl⟩
      rw [← hW2] at hk hh hout
      have hcp := c_X2_copyFrom (w := W2) (p := c + 1) (P := P) hout (by omega)
      rw [← hh.1.idp] at hcp
      have hn2 := hh.1.now (Q := r.2.1)
      obtain ⟨W3, hW3⟩ : ∃ W3, W3 = ps W2 (c + 1) r.2.1 := ⟨_, rfl⟩
      rw [← hW3] at hcp hn2
      have hse := c_X4_settle (a := nI r.1) hn2.1 hn
      have hnn : ¬ nI r.1 < 0 := nI_pos (by omega)
      have K3 : V X 0 0 42 [some (.ref c)] [] W3 := by
        refine V.aload0 h 43 dX4_play_42 rfl (V.aload0 h 44 dX4_play_43 rfl (V.gX4 h 3 47 dX4_play_44 rfl rfl k203 hn2.1.ob rfl (V.gX3N h 5 50 dX4_play_47 rfl rfl k172 hn2.1.so rfl ?_)))
        rw [e5]
        refine V.callVe (As := [.int _]) (st := []) h 53 dX4_play_50 rfl k245 k242 k244 ks3 k1 hd_X4_settle ⟨(Nat.le_of_ble_eq_true rfl), (Nat.le_of_ble_eq_true rfl)⟩ (Nat.le_of_ble_eq_true rfl) hn2.1.ob rfl rfl ⟨Nat.zero_le _, Nat.zero_le _⟩ hse rfl (fun w50 hw50 => ?_)
        obtain ⟨hJ, hF3⟩ := hw50
        refine V.iret h hR dX4_play_53 ?_
        unfold nxN nxH at hJ
        rw [if_neg hnn, if_neg hnn] at hJ
        exact ⟨rfl, S1, e0, e1, hJ, ((hx3'.2.tr hh.2).tr hn2.2).tr hF3⟩
      have K2 : V X 0 0 28 [some (.ref c)] [] W2 := by
        refine V.aload0 h 29 dX4_play_28 rfl (V.gX4 h 0 32 dX4_play_29 rfl rfl k200 hh.1.ob rfl (V.aload0 h 33 dX4_play_32 rfl (V.gX4 h 3 36 dX4_play_33 rfl rfl k203 hh.1.ob rfl (V.gX3N h 3 39 dX4_play_36 rfl rfl k169 hh.1.so rfl (V.callNfv (As := [.ref _]) (st := []) h 42 dX4_play_39 rfl k234 k231 k233 ks1 k2 hd_X2_copyFrom ⟨(Nat.le_of_ble_eq_true rfl), (Nat.le_of_ble_eq_true rfl)⟩ (Nat.le_of_ble_eq_true rfl) hh.1.2.1.po rfl rfl ⟨Nat.zero_le _, Nat.zero_le _⟩ hcp rfl ?_)))))
        exact K3
      refine V.at W1 hW1.symm ?_
      refine V.aload0 h 12 dX4_play_11 rfl (V.gX4 h 3 15 dX4_play_12 rfl rfl k203 hx3'.1.ob rfl (V.callNf (As := []) (st := []) h 18 dX4_play_15 rfl k537 k534 k536 ks52 k5 hd_X3_hasFault ⟨(Nat.le_of_ble_eq_true rfl), (Nat.le_of_ble_eq_true rfl)⟩ (Nat.le_of_ble_eq_true rfl) hx3'.1.so rfl rfl ⟨Nat.zero_le _, Nat.zero_le _⟩ hhf rfl ?_))
      refine V.bif_eq h 24 21 dX4_play_18 rfl rfl (fun _ => ?_) (fun q => absurd ((Eq.symm (show (!true) = false from rfl)).trans q) (by decide))
      refine V.aload0 h 25 dX4_play_24 rfl (V.callVfv (As := []) (st := []) h 28 dX4_play_25 rfl k230 k227 k229 ks0 k1 hd_X4_keepState ⟨(Nat.le_of_ble_eq_true rfl), (Nat.le_of_ble_eq_true rfl)⟩ (Nat.le_of_ble_eq_true rfl) hx3'.1.ob rfl rfl ⟨Nat.zero_le _, Nat.zero_le _⟩ hk rfl ?_)
      exact K2
    · rw [decide_eq_false h7, if_neg Bool.false_ne_true, if_neg Bool.false_ne_true, if_neg Bool.false_ne_true, if_neg Bool.false_ne_true] at hR
      have hhf := c_X3_hasFault (w := w) (s := c + 15) (P := r.2.1) (f := f1) (g := g1) (v := v1) (S := S1)
      rw [e7, decide_eq_false h7] at hhf
      refine V.aload0 h 12 dX4_play_11 rfl (V.gX4 h 3 15 dX4_play_12 rfl rfl k203 hx3.1.ob rfl (V.callNf (As := []) (st := []) h 18 dX4_play_15 rfl k537 k534 k536 ks52 k5 hd_X3_hasFault ⟨(Nat.le_of_ble_eq_true rfl), (Nat.le_of_ble_eq_true rfl)⟩ (Nat.le_of_ble_eq_true rfl) xo rfl rfl ⟨Nat.zero_le _, Nat.zero_le _⟩ hhf rfl ?_))
      refine V.bif_eq h 24 21 dX4_play_18 rfl rfl (fun q => absurd ((Eq.symm (show (!false) = true from rfl)).trans q) (by decide)) (fun _ => ?_)
      refine V.bipush h 23 dX4_play_21 rfl ic2_m2 ?_
      refine V.iret h hR dX4_play_23 ?_
      exact ⟨rfl, S1, e0, e1, ⟨σ, hx3.1⟩, hx3.2⟩
  refine V.at _ ew ?_
  refine V.aload0 h 1 dX4_play_0 rfl (V.gX4 h 3 4 dX4_play_1 rfl rfl k203 hx1.1.ob rfl (V.aload0 h 5 dX4_play_4 rfl (V.gX4 h 0 8 dX4_play_5 rfl rfl k200 hx1.1.ob rfl (V.callNev (As := [.ref _]) (st := []) h 11 dX4_play_8 rfl k499 k496 k498 ks45 k5 hd_X3_tryOn ⟨(Nat.le_of_ble_eq_true rfl), (Nat.le_of_ble_eq_true rfl)⟩ (Nat.le_of_ble_eq_true rfl) xo rfl rfl ⟨Nat.zero_le _, Nat.zero_le _⟩ htr rfl (fun w8 hw8 => ?_)))))
  obtain ⟨f1, g1, v1, S1, hTr, rfl⟩ := hw8
  exact K f1 g1 v1 S1 hTr
