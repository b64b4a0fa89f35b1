/-! the class: the script's cells -/
abbrev chrs (n : Nat) (f : Nat → Int32) : Ce := .inl (2, n, .inl f)
def sfl (s : Nat) (S : Pl) : List Value := [.ref (s + 1), .int (S 1 0), .ref (s + 2), .ref (s + 3), .ref (s + 13), .int (S 5 0), .int (S 6 0), .int (S 7 0), .int (S 8 0)]
def scl (s : Nat) (S : Pl) : Nat → Ce := fun i => match i with
  | 0 => .inr (3, sfl s S)
  | 1 => chrs 80 (S 0)
  | 2 => ints 5 (S 2)
  | _ => .inr (0, [])
def ss (w : Wd) (s : Nat) (S : Pl) : Wd := rs w s 3 (scl s S)
/-- a script with its place, its judge and its text -/
abbrev xs (w : Wd) (s : Nat) (P : Pl) (f g : Nat → Int32) (v : Int32) (S : Pl) : Wd := ct (ss w s S) (s + 3) (s + 14) P f g v
abbrev XK (w : Wd) (s : Nat) : Prop := w.2 (s + 13) = some (.inr (0, [.ref (s + 3), .ref (s + 14)]))
section XS
variable {w : Wd} {s : Nat} {P S : Pl} {f g : Nat → Int32} {v : Int32}
theorem xs_lo {q : Nat} (h : q < s + 3) : (xs w s P f g v S).2 q = (ss w s S).2 q := by
  show (rs (rs _ (s + 3) 10 _) (s + 14) 3 _).2 q = _
  rw [rs_out (by omega), rs_out (by omega)]
theorem XK.ck (h : XK w s) : CK (ss w s S) (s + 13) (s + 3) (s + 14) := by
  refine ⟨?_, by omega, by omega, by omega⟩
  show (rs w s 3 _).2 _ = _
  rw [rs_out (by omega)]
  exact h
theorem xo : (xs w s P f g v S).2 s = some (.inr (3, sfl s S)) := by rw [xs_lo (by omega)]; exact rs_in (k := 0) (by decide)
theorem xa1 : (xs w s P f g v S).2 (s + 1) = some (chrs 80 (S 0)) := by rw [xs_lo (by omega)]; exact rs_in (k := 1) (by decide)
theorem xa2 : (xs w s P f g v S).2 (s + 2) = some (ints 5 (S 2)) := by rw [xs_lo (by omega)]; exact rs_in (k := 2) (by decide)
theorem xP : PlaceAt (xs w s P f g v S) (s + 3) P := ctP (by omega)
theorem xs_set {a : Nat} {e : Ce} (h : a < s + 3) : wset (xs w s P f g v S) a e = ct (wset (ss w s S) a e) (s + 3) (s + 14) P f g v := by
  show wset (rs (rs _ (s + 3) 10 _) (s + 14) 3 _) a e = rs (rs _ (s + 3) 10 _) (s + 14) 3 _
  rw [wset_rs_out (by omega), wset_rs_out (by omega)]
theorem xp1 {x : Int32} : wset (xs w s P f g v S) s (.inr (3, (sfl s S).set 1 (.int x))) = xs w s P f g v (us S 1 x) := by
  rw [xs_set (by omega)]; congr 2; unfold ss; refine (wset_rs (k := 0) (by decide) _).trans ?_; congr 1; funext i; match i with
  | 0 => rfl
  | 1 => rfl
  | 2 => rfl
  | n + 3 => rfl
theorem xp5 {x : Int32} : wset (xs w s P f g v S) s (.inr (3, (sfl s S).set 5 (.int x))) = xs w s P f g v (us S 5 x) := by
  rw [xs_set (by omega)]; congr 2; unfold ss; refine (wset_rs (k := 0) (by decide) _).trans ?_; congr 1; funext i; match i with
  | 0 => rfl
  | 1 => rfl
  | 2 => rfl
  | n + 3 => rfl
theorem xp6 {x : Int32} : wset (xs w s P f g v S) s (.inr (3, (sfl s S).set 6 (.int x))) = xs w s P f g v (us S 6 x) := by
  rw [xs_set (by omega)]; congr 2; unfold ss; refine (wset_rs (k := 0) (by decide) _).trans ?_; congr 1; funext i; match i with
  | 0 => rfl
  | 1 => rfl
  | 2 => rfl
  | n + 3 => rfl
theorem xp7 {x : Int32} : wset (xs w s P f g v S) s (.inr (3, (sfl s S).set 7 (.int x))) = xs w s P f g v (us S 7 x) := by
  rw [xs_set (by omega)]; congr 2; unfold ss; refine (wset_rs (k := 0) (by decide) _).trans ?_; congr 1; funext i; match i with
  | 0 => rfl
  | 1 => rfl
  | 2 => rfl
  | n + 3 => rfl
theorem xp8 {x : Int32} : wset (xs w s P f g v S) s (.inr (3, (sfl s S).set 8 (.int x))) = xs w s P f g v (us S 8 x) := by
  rw [xs_set (by omega)]; congr 2; unfold ss; refine (wset_rs (k := 0) (by decide) _).trans ?_; congr 1; funext i; match i with
  | 0 => rfl
  | 1 => rfl
  | 2 => rfl
  | n + 3 => rfl
theorem xw1 {x : Nat → Int32} : wset (xs w s P f g v S) (s + 1) (chrs 80 x) = xs w s P f g v (ua S 0 x) := by
  rw [xs_set (by omega)]; congr 2; unfold ss; refine (wset_rs (k := 1) (by decide) _).trans ?_; congr 1; funext i; match i with
  | 0 => rfl
  | 1 => rfl
  | 2 => rfl
  | n + 3 => rfl
theorem xw2 {x : Nat → Int32} : wset (xs w s P f g v S) (s + 2) (ints 5 x) = xs w s P f g v (ua S 2 x) := by
  rw [xs_set (by omega)]; congr 2; unfold ss; refine (wset_rs (k := 2) (by decide) _).trans ?_; congr 1; funext i; match i with
  | 0 => rfl
  | 1 => rfl
  | 2 => rfl
  | n + 3 => rfl
end XS
def chS (T : Nat → Int32) (n p : Nat) : Int32 := if p < n then T p else 0
/-- a text of signs that can be typed -/
def TOK (S : Pl) (n : Nat) : Prop := S 1 0 = nI n ∧ n ≤ 80 ∧ ∀ k, ∃ c, c < 127 ∧ S 0 k = nI c
theorem nar_ch : ∀ c, c < 127 → narrow .char (.int (nI c)) = .int (nI c) := by decide +kernel
theorem c_X3_append {w : Wd} {s n x : Nat} {P S : Pl} {f g : Nat → Int32} {v : Int32} (hT : TOK S n) (hx : x < 127) : K_X3_append [.ref s, .int (nI x)] (xs w s P f g v S) (RI (if n = 80 then -3 else nI (n + 1)) (xs w s P f g v (if n = 80 then S else us (ua S 0 (upd (S 0) n (nI x))) 1 (nI (n + 1))))) := by
  obtain ⟨h1, h80, hch⟩ := hT
  refine Con.mk [some (.ref s), some (.int (nI x))] (by decide) rfl rfl (Nat.le_of_ble_eq_true rfl) (fun X h hR hnm => ?_)
  by_cases hn : n = 80
  · rw [if_pos hn, if_pos hn] at hR
    refine V.aload0 h 1 dX3_append_0 rfl (V.gX3 h 1 4 dX3_append_1 rfl rfl k165 xo rfl ?_)
    rw [h1, hn]
    refine V.bipush h 6 dX3_append_4 rfl ic2_80 ?_
    refine V.icmp_lt h 12 9 dX3_append_6 rfl rfl (fun q => absurd q (by decide)) (fun _ => ?_)
    refine V.bipush h 11 dX3_append_9 rfl ic2_m3 ?_
    refine V.iret h hR dX3_append_11 ?_
    exact ⟨rfl, rfl⟩
  · rw [if_neg hn, if_neg hn] at hR
    have hnar : vp_nar .char (nI x) = nI x := by
      have h0 := nar_ch x hx
      unfold vp_nar; rw [h0]
    refine V.aload0 h 1 dX3_append_0 rfl (V.gX3 h 1 4 dX3_append_1 rfl rfl k165 xo rfl ?_)
    rw [h1]
    refine V.bipush h 6 dX3_append_4 rfl ic2_80 ?_
    refine V.icmp_lt h 12 9 dX3_append_6 rfl rfl (fun _ => ?_) (fun q => absurd (show nI n < (80 : Int32) from show nI n < nI 80 from nI_lt (by omega) (by decide)) q)
    refine V.aload0 h 13 dX3_append_12 rfl (V.gX3 h 0 16 dX3_append_13 rfl rfl k164 xo rfl (V.aload0 h 17 dX3_append_16 rfl (V.gX3 h 1 20 dX3_append_17 rfl rfl k165 xo rfl ?_)))
    rw [h1]
    refine V.iload1 h 21 dX3_append_20 rfl (V.castN h 22 dX3_append_21 rfl xa1 (by omega) (by decide) ?_)
    rw [hnar]; refine V.at _ xw1 ?_
    refine V.aload0 h 23 dX3_append_22 rfl (V.dup h 24 dX3_append_23 rfl rfl (V.gX3 h 1 27 dX3_append_24 rfl rfl k165 xo rfl ?_))
    rw [show (ua S 0 (upd (S 0) n (nI x))) 1 0 = nI n from h1]
    refine V.iconst h 28 dX3_append_27 rfl ic1_1 (V.iadd h 29 dX3_append_28 rfl ?_)
    rw [show nI n + 1 = nI (n + 1) from (nI_succ n).symm]
    refine V.sX3 h 1 32 dX3_append_29 rfl rfl k165 rfl rfl rfl xo rfl (V.at _ xp1 (V.aload0 h 33 dX3_append_32 rfl (V.gX3 h 1 36 dX3_append_33 rfl rfl k165 xo rfl ?_)))
    refine V.iret h hR dX3_append_36 ?_
    exact ⟨rfl, rfl⟩
theorem c_X3_empty {w : Wd} {s : Nat} {P S : Pl} {f g : Nat → Int32} {v : Int32} : K_X3_empty [.ref s] (xs w s P f g v S) (RI (S 1 0) (xs w s P f g v (us S 1 0))) := by
  refine Con.mk [some (.ref s), none] (by decide) rfl rfl (Nat.le_of_ble_eq_true rfl) (fun X h hR hnm => ?_)
  refine V.aload0 h 1 dX3_empty_0 rfl (V.gX3 h 1 4 dX3_empty_1 rfl rfl k165 xo rfl (V.istore1 h 5 dX3_empty_4 rfl rfl (V.aload0 h 6 dX3_empty_5 rfl (V.iconst h 7 dX3_empty_6 rfl ic1_0 (V.sX3 h 1 10 dX3_empty_7 rfl rfl k165 rfl rfl rfl xo rfl (V.at _ xp1 (V.iload1 h 11 dX3_empty_10 rfl ?_)))))))
  refine V.iret h hR dX3_empty_11 ?_
  exact ⟨rfl, rfl⟩
theorem c_X3_hasFault {w : Wd} {s : Nat} {P S : Pl} {f g : Nat → Int32} {v : Int32} : K_X3_hasFault [.ref s] (xs w s P f g v S) (RI (bI (!decide (S 7 0 = -4))) (xs w s P f g v S)) := by
  refine Con.mk [some (.ref s)] (by decide) rfl rfl (Nat.le_of_ble_eq_true rfl) (fun X h hR hnm => ?_)
  refine V.aload0 h 1 dX3_hasFault_0 rfl (V.gX3 h 7 4 dX3_hasFault_1 rfl rfl k175 xo rfl (V.bipush h 6 dX3_hasFault_4 rfl ic2_m4 ?_))
  refine V.icmp_eq h 13 9 dX3_hasFault_6 rfl rfl (fun c6 => ?_) (fun c6 => ?_)
  · refine V.iconst h 14 dX3_hasFault_13 rfl ic1_0 ?_
    refine V.zret h hR (by first | exact bI_z _ | rfl) dX3_hasFault_14 ?_
    first | exact RI_t (by rw [decide_eq_false c6]; rfl) | exact RI_f (by rw [decide_eq_true c6]; rfl)
  · refine V.iconst h 10 dX3_hasFault_9 rfl ic1_1 (V.goto h 14 dX3_hasFault_10 rfl ?_)
    refine V.zret h hR (by first | exact bI_z _ | rfl) dX3_hasFault_14 ?_
    first | exact RI_t (by rw [decide_eq_false c6]; rfl) | exact RI_f (by rw [decide_eq_true c6]; rfl)
def tel (S : Pl) (a b c : Int32) : Pl := us (us (us S 6 a) 7 b) 8 c
theorem c_X3_tellFault {w : Wd} {s : Nat} {P S : Pl} {f g : Nat → Int32} {v a b c : Int32} : K_X3_tellFault [.ref s, .int a, .int b, .int c] (xs w s P f g v S) (RV (xs w s P f g v (tel S a b c))) := by
  refine Con.mk [some (.ref s), some (.int a), some (.int b), some (.int c)] (by decide) rfl rfl (Nat.le_of_ble_eq_true rfl) (fun X h hR hnm => ?_)
  refine V.aload0 h 1 dX3_tellFault_0 rfl (V.iload1 h 2 dX3_tellFault_1 rfl (V.sX3 h 6 5 dX3_tellFault_2 rfl rfl k173 rfl rfl rfl xo rfl (V.at _ xp6 (V.aload0 h 6 dX3_tellFault_5 rfl (V.iload2 h 7 dX3_tellFault_6 rfl (V.sX3 h 7 10 dX3_tellFault_7 rfl rfl k175 rfl rfl rfl xo rfl (V.at _ xp7 ?_)))))))
  refine V.aload0 h 11 dX3_tellFault_10 rfl (V.iload3 h 12 dX3_tellFault_11 rfl (V.sX3 h 8 15 dX3_tellFault_12 rfl rfl k177 rfl rfl rfl xo rfl (V.at _ xp8 ?_)))
  refine V.vret h hR dX3_tellFault_15 ?_
  exact ⟨rfl, rfl⟩
theorem c_X3_signAt {w : Wd} {s n p : Nat} {P S : Pl} {f g : Nat → Int32} {v : Int32} (hT : TOK S n) (hp : p < 2 ^ 31) : K_X3_signAt [.ref s, .int (nI p)] (xs w s P f g v S) (RI (chS (S 0) n p) (xs w s P f g v S)) := by
  obtain ⟨h1, h80, hch⟩ := hT
  refine Con.mk [some (.ref s), some (.int (nI p))] (by decide) rfl rfl (Nat.le_of_ble_eq_true rfl) (fun X h hR hnm => ?_)
  by_cases hpn : p < n
  · obtain ⟨c, hc, ec⟩ := hch p
    have hz : narrow .char (.int (S 0 p)) = .int (S 0 p) := by rw [ec]; exact nar_ch c hc
    refine V.iload1 h 1 dX3_signAt_0 rfl ?_
    refine V.if_lt h 27 4 dX3_signAt_1 rfl rfl (fun q => absurd q (nI_pos hp)) (fun _ => ?_)
    refine V.iload1 h 5 dX3_signAt_4 rfl (V.aload0 h 6 dX3_signAt_5 rfl (V.gX3 h 1 9 dX3_signAt_6 rfl rfl k165 xo rfl ?_))
    rw [h1]
    refine V.icmp_ge h 27 12 dX3_signAt_9 rfl rfl (fun q => absurd q (nI_ge hpn (by omega))) (fun _ => ?_)
    refine V.iload1 h 13 dX3_signAt_12 rfl (V.bipush h 15 dX3_signAt_13 rfl ic2_80 ?_)
    refine V.icmp_ge h 27 18 dX3_signAt_15 rfl rfl (fun q => absurd q (lp_in (n := 80) (by omega))) (fun _ => ?_)
    refine V.aload0 h 19 dX3_signAt_18 rfl (V.gX3 h 0 22 dX3_signAt_19 rfl rfl k164 xo rfl (V.iload1 h 23 dX3_signAt_22 rfl (V.caldN h 24 dX3_signAt_23 rfl xa1 (by omega) (by decide) (V.goto h 28 dX3_signAt_24 rfl ?_))))
    refine V.zret h hR hz dX3_signAt_28 ?_
    exact RI_r (by unfold chS; rw [if_pos hpn])
  · have hz : narrow .char (.int (0 : Int32)) = .int 0 := nar_ch 0 (by decide)
    refine V.iload1 h 1 dX3_signAt_0 rfl ?_
    refine V.if_lt h 27 4 dX3_signAt_1 rfl rfl (fun q => absurd q (nI_pos hp)) (fun _ => ?_)
    refine V.iload1 h 5 dX3_signAt_4 rfl (V.aload0 h 6 dX3_signAt_5 rfl (V.gX3 h 1 9 dX3_signAt_6 rfl rfl k165 xo rfl ?_))
    rw [h1]
    refine V.icmp_ge h 27 12 dX3_signAt_9 rfl rfl (fun _ => ?_) (fun q => absurd (nI_le (by omega) hp) q)
    refine V.iconst h 28 dX3_signAt_27 rfl ic1_0 ?_
    refine V.zret h hR hz dX3_signAt_28 ?_
    exact RI_r (by unfold chS; rw [if_neg hpn])
def cmC (c : Int32) : Nat := if c = 112 then 5 else if cmdS c = true then 1 else 0
theorem c_X3_numbersBehind {w : Wd} {s : Nat} {c : Int32} : K_X3_numbersBehind [.ref s, .int c] w (RI (nI (cmC c)) w) := by
  refine Con.mk [some (.ref s), some (.int c)] (by decide) rfl rfl (Nat.le_of_ble_eq_true rfl) (fun X h hR hnm => ?_)
  refine V.iload1 h 1 dX3_numbersBehind_0 rfl ?_
  refine V.lcase (off := 51) h (99 : Int32) 52 dX3_numbersBehind_1 (by decide +kernel) (by decide +kernel) rfl (fun c1_99 => ?_) (fun c1_99 => ?_)
  · refine V.iconst h 53 dX3_numbersBehind_52 rfl ic1_1 ?_
    refine V.iret h hR dX3_numbersBehind_53 ?_
    first | exact RI_r (by rw [show c = 99 from c1_99]; decide) | exact RI_r (by rw [show c = 103 from c1_103]; decide) | exact RI_r (by rw [show c = 104 from c1_104]; decide) | exact RI_r (by rw [show c = 119 from c1_119]; decide)
  refine V.lcase (off := 51) h (103 : Int32) 52 dX3_numbersBehind_1 (by decide +kernel) (by decide +kernel) rfl (fun c1_103 => ?_) (fun c1_103 => ?_)
  · refine V.iconst h 53 dX3_numbersBehind_52 rfl ic1_1 ?_
    refine V.iret h hR dX3_numbersBehind_53 ?_
    first | exact RI_r (by rw [show c = 99 from c1_99]; decide) | exact RI_r (by rw [show c = 103 from c1_103]; decide) | exact RI_r (by rw [show c = 104 from c1_104]; decide) | exact RI_r (by rw [show c = 119 from c1_119]; decide)
  refine V.lcase (off := 51) h (104 : Int32) 52 dX3_numbersBehind_1 (by decide +kernel) (by decide +kernel) rfl (fun c1_104 => ?_) (fun c1_104 => ?_)
  · refine V.iconst h 53 dX3_numbersBehind_52 rfl ic1_1 ?_
    refine V.iret h hR dX3_numbersBehind_53 ?_
    first | exact RI_r (by rw [show c = 99 from c1_99]; decide) | exact RI_r (by rw [show c = 103 from c1_103]; decide) | exact RI_r (by rw [show c = 104 from c1_104]; decide) | exact RI_r (by rw [show c = 119 from c1_119]; decide)
  refine V.lcase (off := 53) h (112 : Int32) 54 dX3_numbersBehind_1 (by decide +kernel) (by decide +kernel) rfl (fun c1_112 => ?_) (fun c1_112 => ?_)
  · refine V.iconst h 55 dX3_numbersBehind_54 rfl ic1_5 ?_
    refine V.iret h hR dX3_numbersBehind_55 ?_
    exact RI_r (by rw [show c = 112 from c1_112]; decide)
  refine V.lcase (off := 51) h (119 : Int32) 52 dX3_numbersBehind_1 (by decide +kernel) (by decide +kernel) rfl (fun c1_119 => ?_) (fun c1_119 => ?_)
  · refine V.iconst h 53 dX3_numbersBehind_52 rfl ic1_1 ?_
    refine V.iret h hR dX3_numbersBehind_53 ?_
    first | exact RI_r (by rw [show c = 99 from c1_99]; decide) | exact RI_r (by rw [show c = 103 from c1_103]; decide) | exact RI_r (by rw [show c = 104 from c1_104]; decide) | exact RI_r (by rw [show c = 119 from c1_119]; decide)
  refine V.ldflt h 56 dX3_numbersBehind_1 (by decide +kernel) (by show Op.lookupswitch.offset [(99, 51), (103, 51), (104, 51), (112, 53), (119, 51)] _ _ = _; rw [lv_osw c1_99 (by decide)]; rw [lv_osw c1_103 (by decide)]; rw [lv_osw c1_104 (by decide)]; rw [lv_osw c1_112 (by decide)]; rw [lv_osw c1_119 (by decide)]; rfl) rfl ?_
  refine V.iconst h 57 dX3_numbersBehind_56 rfl ic1_0 ?_
  refine V.iret h hR dX3_numbersBehind_57 ?_
  exact RI_r (by unfold cmC cmdS; rw [if_neg c1_112, decide_eq_false c1_103, decide_eq_false c1_104, decide_eq_false c1_112, decide_eq_false c1_119, decide_eq_false c1_99]; rfl)
