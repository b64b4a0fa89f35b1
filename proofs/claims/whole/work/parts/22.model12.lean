/-! the reference: commands -/
theorem arrV_cong {c n : Nat} {f g : Nat → Value} (h : ∀ k, k < n → f k = g k) : arrV c n f = arrV c n g := by
  unfold arrV
  congr 1
  apply Array.ext
  · simp
  · intro i h1 h2
    simp at h1
    simp [h i h1]
/-- what a row holds behind its end doesn't count -/
theorem wR.ints {g : GG} {B : Nat} {w : Wd} {H : Heap} {a n t : Nat} {f f' : Nat → Int32} (h : wR g B w H) (ha : w.2 a = some (.inl (t, n, .inl f))) (hf : ∀ k, k < n → f k = f' k) : wR g B (wset w a (.inl (t, n, .inl f'))) H := by
  refine h.upd ha rfl (fun _ _ => rfl) ?_
  have h1 := (h.lo ha).2
  show H[a]? = some (vp_cell _ _)
  have h1 : H[a]? = some (vp_cell (g.2 t) (n, .inl f)) := h1
  rw [h1, vp_cell_i, vp_cell_i]
  exact congrArg some (arrV_cong fun k hk => by rw [hf k hk])
theorem V.ints {X : CX} {kc ks pc : Nat} {lv : List (Option Value)} {st : List Value} {w : Wd} {a n t : Nat} {f f' : Nat → Int32} (ha : w.2 a = some (.inl (t, n, .inl f))) (hf : ∀ k, k < n → f k = f' k) (k : V X kc ks pc lv st (wset w a (.inl (t, n, .inl f')))) : V X kc ks pc lv st w :=
  fun H locs ls hw hS hl => k H locs ls (hw.ints ha hf) hS hl
theorem c_returns {M : Pl} {b : Nat} {s s0 : Nat → Int32} {w : Wd} (hr : ∀ k, k < 125 → M 1 k = s0 k) : K_X5_returns [.ref b] (mz w b M s) (RV (mz w b M s0)) := by
  refine Con.mk [some (.ref b), none] (by decide) rfl rfl (Nat.le_of_ble_eq_true rfl) (fun X h hR hnm => ?_)
  have L : ∀ (d n : Nat), n + d = 125 → V X 0 0 2 [some (.ref b), some (.int (nI n))] [] (mz w b M (cp n (M 1) s)) := by
    intro d
    induction d with
    | zero =>
      intro n hnd
      obtain rfl : n = 125 := by omega
      refine V.ints za1 (f' := s0) (fun k hk => by unfold cp; rw [if_pos hk, hr k hk]) (V.at _ zw1 ?_)
      refine V.iload1 h 3 dX5_returns_2 rfl (V.bipush h 5 dX5_returns_3 rfl ic2_125 ?_)
      refine V.icmp_ge h 26 8 dX5_returns_5 rfl rfl (fun _ => ?_) (fun q => absurd (lp_out (n := 125)) q)
      refine V.vret h hR dX5_returns_26 ?_
      exact ⟨rfl, rfl⟩
    | succ d ih =>
      intro n hnd
      refine V.iload1 h 3 dX5_returns_2 rfl (V.bipush h 5 dX5_returns_3 rfl ic2_125 ?_)
      refine V.icmp_ge h 26 8 dX5_returns_5 rfl rfl (fun q => absurd q (lp_in (n := 125) (by omega))) (fun _ => ?_)
      refine V.aload0 h 9 dX5_returns_8 rfl (V.gX5 h 0 12 dX5_returns_9 rfl rfl k544 zo rfl (V.iload1 h 13 dX5_returns_12 rfl (V.aload0 h 14 dX5_returns_13 rfl (V.gX5 h 1 17 dX5_returns_14 rfl rfl k545 zo rfl (V.iload1 h 18 dX5_returns_17 rfl (V.ialdN h 19 dX5_returns_18 rfl za2 (by omega) (by decide) (V.iastN h 20 dX5_returns_19 rfl za1 (by omega) (by decide) ?_)))))))
      refine V.at _ zw1 (V.incN1 h 23 dX5_returns_20 rfl rfl (V.goto h 2 dX5_returns_23 rfl ?_))
      rw [cp_s]
      exact ih (n + 1) (by omega)
  refine V.iconst h 1 dX5_returns_0 rfl ic1_0 (V.istore1 h 2 dX5_returns_1 rfl rfl ?_)
  have h0 := L 125 0 rfl
  rw [cp_0] at h0
  exact h0
def chM (T : Nat → Int32) (n p : Nat) : Int32 := if p < n then T p else -1
theorem c_X5_here {M : Pl} {b n p : Nat} {s : Nat → Int32} {w : Wd} (h5 : M 5 0 = nI n) (h80 : n ≤ 80) (h10 : M 10 0 = nI p) (hp : p < 1000) : K_X5_here [.ref b] (mz w b M s) (RI (chM (M 4) n p) (mz w b M s)) := by
  refine Con.mk [some (.ref b)] (by decide) rfl rfl (Nat.le_of_ble_eq_true rfl) (fun X h hR hnm => ?_)
  by_cases hlt : p < n
  · refine V.aload0 h 1 dX5_here_0 rfl (V.gX5 h 10 4 dX5_here_1 rfl rfl k554 zo rfl (V.aload0 h 5 dX5_here_4 rfl (V.gX5 h 5 8 dX5_here_5 rfl rfl k549 zo rfl ?_)))
    refine V.icmp_ge h 23 11 dX5_here_8 rfl rfl (fun q => absurd q (show ¬ M 5 0 ≤ M 10 0 by rw [h5, h10]; exact nI_ge hlt (by omega))) (fun _ => ?_)
    refine V.aload0 h 12 dX5_here_11 rfl (V.gX5 h 4 15 dX5_here_12 rfl rfl k548 zo rfl (V.aload0 h 16 dX5_here_15 rfl (V.gX5 h 10 19 dX5_here_16 rfl rfl k554 zo rfl ?_)))
    rw [h10]
    refine V.ialdN h 20 dX5_here_19 rfl za4 (by omega) (by decide) (V.goto h 24 dX5_here_20 rfl ?_)
    refine V.iret h hR dX5_here_24 ?_
    exact RI_r (by unfold chM; rw [if_pos hlt])
  · refine V.aload0 h 1 dX5_here_0 rfl (V.gX5 h 10 4 dX5_here_1 rfl rfl k554 zo rfl (V.aload0 h 5 dX5_here_4 rfl (V.gX5 h 5 8 dX5_here_5 rfl rfl k549 zo rfl ?_)))
    refine V.icmp_ge h 23 11 dX5_here_8 rfl rfl (fun _ => ?_) (fun q => absurd (show M 5 0 ≤ M 10 0 by rw [h5, h10]; exact nI_le (by omega) (by omega)) q)
    refine V.iconst h 24 dX5_here_23 rfl ic1_m1 ?_
    refine V.iret h hR dX5_here_24 ?_
    exact RI_r (by unfold chM; rw [if_neg hlt])
theorem c_X5_must {M : Pl} {b n p : Nat} {s : Nat → Int32} {w : Wd} {f : Bool} {c : Int32} (h5 : M 5 0 = nI n) (h80 : n ≤ 80) (h10 : M 10 0 = nI p) (hp : p < 1000) (h11 : M 11 0 = bI f) : K_X5_must [.ref b, .int c] (mz w b M s) (RV (mz w b (us (us M 11 (bI (f && decide (chM (M 4) n p = c)))) 10 (nI (p + 1))) s)) := by
  refine Con.mk [some (.ref b), some (.int c)] (by decide) rfl rfl (Nat.le_of_ble_eq_true rfl) (fun X h hR hnm => ?_)
  refine V.aload0 h 1 dX5_must_0 rfl (V.aload0 h 2 dX5_must_1 rfl (V.gX5 h 11 5 dX5_must_2 rfl rfl k555 zo rfl ?_))
  rw [h11]
  refine V.bif_eq h 20 8 dX5_must_5 rfl rfl (fun c5 => ?_) (fun c5 => ?_)
  · refine V.iconst h 21 dX5_must_20 rfl ic1_0 (V.sX5 h 11 24 dX5_must_21 rfl rfl k555 rfl (by first | exact bI_z _ | rfl) rfl zo rfl (V.at _ zp11 (V.aload0 h 25 dX5_must_24 rfl (V.dup h 26 dX5_must_25 rfl rfl (V.gX5 h 10 29 dX5_must_26 rfl rfl k554 zo rfl (V.iconst h 30 dX5_must_29 rfl ic1_1 (V.iadd h 31 dX5_must_30 rfl ?_)))))))
    refine V.sX5 h 10 34 dX5_must_31 rfl rfl k554 rfl rfl rfl zo rfl (V.at _ zp10 ?_)
    refine V.vret h hR dX5_must_34 ?_
    refine ⟨rfl, ?_⟩
    rw [show (us M 11 _) 10 0 = nI p from h10, ← nI_succ]
    first | (rw [c5, decide_eq_true (show chM (M 4) n p = c from c13)]; rfl) | (rw [c5, decide_eq_false (show ¬ chM (M 4) n p = c from c13)]; rfl) | (rw [show f = false from c5]; rfl)
  · refine V.aload0 h 9 dX5_must_8 rfl (V.callVf (As := []) (st := [.ref _]) h 12 dX5_must_9 rfl k826 k823 k825 ks93 k6 hd_X5_here ⟨(Nat.le_of_ble_eq_true rfl), (Nat.le_of_ble_eq_true rfl)⟩ (Nat.le_of_ble_eq_true rfl) zo rfl rfl ⟨Nat.zero_le _, Nat.zero_le _⟩ (c_X5_here h5 h80 h10 (by omega)) rfl (V.iload1 h 13 dX5_must_12 rfl ?_))
    refine V.icmp_ne h 20 16 dX5_must_13 rfl rfl (fun c13 => ?_) (fun c13 => ?_)
    · refine V.iconst h 21 dX5_must_20 rfl ic1_0 (V.sX5 h 11 24 dX5_must_21 rfl rfl k555 rfl (by first | exact bI_z _ | rfl) rfl zo rfl (V.at _ zp11 (V.aload0 h 25 dX5_must_24 rfl (V.dup h 26 dX5_must_25 rfl rfl (V.gX5 h 10 29 dX5_must_26 rfl rfl k554 zo rfl (V.iconst h 30 dX5_must_29 rfl ic1_1 (V.iadd h 31 dX5_must_30 rfl ?_)))))))
      refine V.sX5 h 10 34 dX5_must_31 rfl rfl k554 rfl rfl rfl zo rfl (V.at _ zp10 ?_)
      refine V.vret h hR dX5_must_34 ?_
      refine ⟨rfl, ?_⟩
      rw [show (us M 11 _) 10 0 = nI p from h10, ← nI_succ]
      first | (rw [c5, decide_eq_true (show chM (M 4) n p = c from c13)]; rfl) | (rw [c5, decide_eq_false (show ¬ chM (M 4) n p = c from c13)]; rfl) | (rw [show f = false from c5]; rfl)
    · refine V.iconst h 17 dX5_must_16 rfl ic1_1 (V.goto h 21 dX5_must_17 rfl (V.sX5 h 11 24 dX5_must_21 rfl rfl k555 rfl (by first | exact bI_z _ | rfl) rfl zo rfl (V.at _ zp11 (V.aload0 h 25 dX5_must_24 rfl (V.dup h 26 dX5_must_25 rfl rfl (V.gX5 h 10 29 dX5_must_26 rfl rfl k554 zo rfl (V.iconst h 30 dX5_must_29 rfl ic1_1 ?_)))))))
      refine V.iadd h 31 dX5_must_30 rfl (V.sX5 h 10 34 dX5_must_31 rfl rfl k554 rfl rfl rfl zo rfl (V.at _ zp10 ?_))
      refine V.vret h hR dX5_must_34 ?_
      refine ⟨rfl, ?_⟩
      rw [show (us M 11 _) 10 0 = nI p from h10, ← nI_succ]
      first | (rw [c5, decide_eq_true (show chM (M 4) n p = c from c13)]; rfl) | (rw [c5, decide_eq_false (show ¬ chM (M 4) n p = c from c13)]; rfl) | (rw [show f = false from c5]; rfl)
/-- how many digits stand from p on, and what they come to behind v; at most f -/
def dgc (T : Nat → Int32) (n : Nat) : Nat → Nat → Nat
  | 0, _ => 0
  | f + 1, p => if rng 48 (chM T n p) 57 = true then dgc T n f (p + 1) + 1 else 0
def dgv (T : Nat → Int32) (n : Nat) : Nat → Nat → Int32 → Int32
  | 0, _, v => v
  | f + 1, p, v => if rng 48 (chM T n p) 57 = true then dgv T n f (p + 1) (10 * v + chM T n p - 48) else v
theorem dgc_le (T : Nat → Int32) (n : Nat) : ∀ f p, dgc T n f p ≤ f
  | 0, _ => Nat.le_refl 0
  | f + 1, p => by
    have := dgc_le T n f (p + 1)
    rw [dgc]; split <;> omega
theorem us3 (M : Pl) (x x' y y' : Int32) : us (us (us M 11 x) 10 y) 10 y' = us (us M 11 x) 10 y' := us_us _ _ _ _
theorem us4 (M : Pl) (x x' y : Int32) : us (us (us M 11 x) 10 y) 11 x' = us (us M 11 x') 10 y := by rw [us_comm _ _ _ (by decide), us_us]
theorem c_X5_readNumber {M : Pl} {b n p : Nat} {s : Nat → Int32} {w : Wd} {f : Bool} {c : Int32} (h5 : M 5 0 = nI n) (h80 : n ≤ 80) (h10 : M 10 0 = nI p) (hp : p < 900) (h11 : M 11 0 = bI f) : K_X5_readNumber [.ref b, .int c] (mz w b M s) (RI (dgv (M 4) n 3 (p + 1) 0) (mz w b (us (us M 11 (bI (f && decide (chM (M 4) n p = c) && decide (0 < dgc (M 4) n 3 (p + 1))))) 10 (nI (p + 1 + dgc (M 4) n 3 (p + 1)))) s)) := by
  refine Con.mk [some (.ref b), some (.int c), none, none] (by decide) rfl rfl (Nat.le_of_ble_eq_true rfl) (fun X h hR hnm => ?_)
  have L : ∀ (g : Bool) (fu d qq : Nat) (v : Int32), d + fu = 3 → qq + fu < 990 → 
      (∀ v' d' : Nat, True) → V X 0 0 57 [some (.ref b), some (.int c), some (.int (dgv (M 4) n fu qq v)), some (.int (nI (d + dgc (M 4) n fu qq)))] [] (mz w b (us (us M 11 (bI g)) 10 (nI (qq + dgc (M 4) n fu qq))) s) →
      V X 0 0 9 [some (.ref b), some (.int c), some (.int v), some (.int (nI d))] [] (mz w b (us (us M 11 (bI g)) 10 (nI qq)) s) := by
    intro g fu
    induction fu with
    | zero =>
      intro d qq v hd hq _ kk
      obtain rfl : d = 3 := by omega
      refine V.iload3 h 10 dX5_readNumber_9 rfl (V.iconst h 11 dX5_readNumber_10 rfl ic1_3 ?_)
      refine V.icmp_ge h 57 14 dX5_readNumber_11 rfl rfl (fun _ => ?_) (fun q => absurd (lp_out (n := 3)) q)
      exact kk
    | succ fu ih =>
      intro d qq v hd hq _ kk
      have h5' : (us (us M 11 (bI g)) 10 (nI qq)) 5 0 = nI n := h5
      have h10' : (us (us M 11 (bI g)) 10 (nI qq)) 10 0 = nI qq := rfl
      by_cases hr : rng 48 (chM (M 4) n qq) 57 = true
      · rw [dgc, dgv, if_pos hr, if_pos hr] at kk
        refine V.iload3 h 10 dX5_readNumber_9 rfl (V.iconst h 11 dX5_readNumber_10 rfl ic1_3 ?_)
        refine V.icmp_ge h 57 14 dX5_readNumber_11 rfl rfl (fun q => absurd q (lp_in (n := 3) (by omega))) (fun _ => ?_)
        refine V.aload0 h 15 dX5_readNumber_14 rfl (V.callVf (As := []) (st := []) h 18 dX5_readNumber_15 rfl k826 k823 k825 ks93 k6 hd_X5_here ⟨(Nat.le_of_ble_eq_true rfl), (Nat.le_of_ble_eq_true rfl)⟩ (Nat.le_of_ble_eq_true rfl) zo rfl rfl ⟨Nat.zero_le _, Nat.zero_le _⟩ (c_X5_here h5' h80 h10' (by omega)) rfl (V.bipush h 20 dX5_readNumber_18 rfl ic2_48 (V.bipush h 22 dX5_readNumber_20 rfl ic2_57 (V.callSf (As := [.int _, .int _, .int _]) (st := []) h 25 dX5_readNumber_22 rfl k604 k602 k603 k6 hd_X5_in ⟨(Nat.le_of_ble_eq_true rfl), (Nat.le_of_ble_eq_true rfl)⟩ (Nat.le_of_ble_eq_true rfl) ⟨Nat.zero_le _, Nat.zero_le _⟩ c_X5_in rfl ?_))))
        refine V.bif_eq h 57 28 dX5_readNumber_25 rfl rfl (fun q => absurd ((Eq.symm hr).trans q) (by decide)) (fun _ => ?_)
        refine V.bipush h 30 dX5_readNumber_28 rfl ic2_10 (V.iload2 h 31 dX5_readNumber_30 rfl (V.imul h 32 dX5_readNumber_31 rfl (V.aload0 h 33 dX5_readNumber_32 rfl (V.callVf (As := []) (st := [.int _]) h 36 dX5_readNumber_33 rfl k826 k823 k825 ks93 k6 hd_X5_here ⟨(Nat.le_of_ble_eq_true rfl), (Nat.le_of_ble_eq_true rfl)⟩ (Nat.le_of_ble_eq_true rfl) zo rfl rfl ⟨Nat.zero_le _, Nat.zero_le _⟩ (c_X5_here h5' h80 h10' (by omega)) rfl (V.iadd h 37 dX5_readNumber_36 rfl (V.bipush h 39 dX5_readNumber_37 rfl ic2_48 (V.isub h 40 dX5_readNumber_39 rfl ?_)))))))
        refine V.istore2 h 41 dX5_readNumber_40 rfl rfl (V.incN3 h 44 dX5_readNumber_41 rfl rfl (V.aload0 h 45 dX5_readNumber_44 rfl (V.dup h 46 dX5_readNumber_45 rfl rfl (V.gX5 h 10 49 dX5_readNumber_46 rfl rfl k554 zo rfl (V.iconst h 50 dX5_readNumber_49 rfl ic1_1 (V.iadd h 51 dX5_readNumber_50 rfl (V.sX5 h 10 54 dX5_readNumber_51 rfl rfl k554 rfl rfl rfl zo rfl ?_)))))))
        refine V.at _ zp10 (V.goto h 9 dX5_readNumber_54 rfl ?_)
        rw [us_us, show (us (us M 11 (bI g)) 10 (nI qq)) 10 0 + 1 = nI (qq + 1) from (nI_succ qq).symm]
        refine ih (d + 1) (qq + 1) _ (by omega) (by omega) (fun _ _ => trivial) ?_
        rw [show d + 1 + dgc (M 4) n fu (qq + 1) = d + (dgc (M 4) n fu (qq + 1) + 1) by omega, show qq + 1 + dgc (M 4) n fu (qq + 1) = qq + (dgc (M 4) n fu (qq + 1) + 1) by omega]
        exact kk
      · rw [dgc, dgv, if_neg hr, if_neg hr] at kk
        refine V.iload3 h 10 dX5_readNumber_9 rfl (V.iconst h 11 dX5_readNumber_10 rfl ic1_3 ?_)
        refine V.icmp_ge h 57 14 dX5_readNumber_11 rfl rfl (fun q => absurd q (lp_in (n := 3) (by omega))) (fun _ => ?_)
        refine V.aload0 h 15 dX5_readNumber_14 rfl (V.callVf (As := []) (st := []) h 18 dX5_readNumber_15 rfl k826 k823 k825 ks93 k6 hd_X5_here ⟨(Nat.le_of_ble_eq_true rfl), (Nat.le_of_ble_eq_true rfl)⟩ (Nat.le_of_ble_eq_true rfl) zo rfl rfl ⟨Nat.zero_le _, Nat.zero_le _⟩ (c_X5_here h5' h80 h10' (by omega)) rfl (V.bipush h 20 dX5_readNumber_18 rfl ic2_48 (V.bipush h 22 dX5_readNumber_20 rfl ic2_57 (V.callSf (As := [.int _, .int _, .int _]) (st := []) h 25 dX5_readNumber_22 rfl k604 k602 k603 k6 hd_X5_in ⟨(Nat.le_of_ble_eq_true rfl), (Nat.le_of_ble_eq_true rfl)⟩ (Nat.le_of_ble_eq_true rfl) ⟨Nat.zero_le _, Nat.zero_le _⟩ c_X5_in rfl ?_))))
        refine V.bif_eq h 57 28 dX5_readNumber_25 rfl rfl (fun _ => ?_) (fun q => absurd ((Eq.symm (show rng 48 (chM (M 4) n qq) 57 = false by simpa using hr)).trans q) (by decide))
        exact kk
  have hdl := dgc_le (M 4) n 3 (p + 1)
  refine V.aload0 h 1 dX5_readNumber_0 rfl (V.iload1 h 2 dX5_readNumber_1 rfl (V.callVfv (As := [.int _]) (st := []) h 5 dX5_readNumber_2 rfl k834 k831 k833 ks95 k6 hd_X5_must ⟨(Nat.le_of_ble_eq_true rfl), (Nat.le_of_ble_eq_true rfl)⟩ (Nat.le_of_ble_eq_true rfl) zo rfl rfl ⟨Nat.zero_le _, Nat.zero_le _⟩ (c_X5_must h5 h80 h10 (by omega) h11) rfl (V.iconst h 6 dX5_readNumber_5 rfl ic1_0 (V.istore2 h 7 dX5_readNumber_6 rfl rfl (V.iconst h 8 dX5_readNumber_7 rfl ic1_0 (V.istore3 h 9 dX5_readNumber_8 rfl rfl ?_))))))
  refine L _ 3 0 (p + 1) 0 rfl (by omega) (fun _ _ => trivial) ?_
  rw [Nat.zero_add]
  refine V.aload0 h 58 dX5_readNumber_57 rfl (V.aload0 h 59 dX5_readNumber_58 rfl (V.gX5 h 11 62 dX5_readNumber_59 rfl rfl k555 zo rfl ?_))
  refine V.bif_eq h 73 65 dX5_readNumber_62 rfl rfl (fun c62 => ?_) (fun c62 => ?_)
  · refine V.iconst h 74 dX5_readNumber_73 rfl ic1_0 (V.sX5 h 11 77 dX5_readNumber_74 rfl rfl k555 rfl (by first | exact bI_z _ | rfl) rfl zo rfl (V.at _ zp11 (V.iload2 h 78 dX5_readNumber_77 rfl ?_)))
    refine V.iret h hR dX5_readNumber_78 ?_
    refine ⟨rfl, ?_⟩
    rw [us4]
    first | (rw [show (f && decide (chM (M 4) n p = c)) = true from c62, decide_eq_true (show 0 < dgc (M 4) n 3 (p + 1) from by
        rcases Nat.eq_zero_or_pos (dgc (M 4) n 3 (p + 1)) with q | q
        · rw [q] at c66; exact absurd (Int32.le_refl _) c66
        · exact q)]; rfl) | (rw [show (f && decide (chM (M 4) n p = c)) = true from c62, decide_eq_false (show ¬ 0 < dgc (M 4) n 3 (p + 1) from fun q => absurd (show nI (dgc (M 4) n 3 (p + 1)) ≤ nI 0 from c66) (nI_ge q (by omega)))]; rfl) | (rw [show (f && decide (chM (M 4) n p = c)) = false from c62]; rfl)
  · refine V.iload3 h 66 dX5_readNumber_65 rfl ?_
    skip
    refine V.if_le h 73 69 dX5_readNumber_66 rfl rfl (fun c66 => ?_) (fun c66 => ?_)
    · refine V.iconst h 74 dX5_readNumber_73 rfl ic1_0 (V.sX5 h 11 77 dX5_readNumber_74 rfl rfl k555 rfl (by first | exact bI_z _ | rfl) rfl zo rfl (V.at _ zp11 (V.iload2 h 78 dX5_readNumber_77 rfl ?_)))
      refine V.iret h hR dX5_readNumber_78 ?_
      refine ⟨rfl, ?_⟩
      rw [us4]
      first | (rw [show (f && decide (chM (M 4) n p = c)) = true from c62, decide_eq_true (show 0 < dgc (M 4) n 3 (p + 1) from by
          rcases Nat.eq_zero_or_pos (dgc (M 4) n 3 (p + 1)) with q | q
          · rw [q] at c66; exact absurd (Int32.le_refl _) c66
          · exact q)]; rfl) | (rw [show (f && decide (chM (M 4) n p = c)) = true from c62, decide_eq_false (show ¬ 0 < dgc (M 4) n 3 (p + 1) from fun q => absurd (show nI (dgc (M 4) n 3 (p + 1)) ≤ nI 0 from c66) (nI_ge q (by omega)))]; rfl) | (rw [show (f && decide (chM (M 4) n p = c)) = false from c62]; rfl)
    · refine V.iconst h 70 dX5_readNumber_69 rfl ic1_1 (V.goto h 74 dX5_readNumber_70 rfl (V.sX5 h 11 77 dX5_readNumber_74 rfl rfl k555 rfl (by first | exact bI_z _ | rfl) rfl zo rfl (V.at _ zp11 (V.iload2 h 78 dX5_readNumber_77 rfl ?_))))
      refine V.iret h hR dX5_readNumber_78 ?_
      refine ⟨rfl, ?_⟩
      rw [us4]
      first | (rw [show (f && decide (chM (M 4) n p = c)) = true from c62, decide_eq_true (show 0 < dgc (M 4) n 3 (p + 1) from by
          rcases Nat.eq_zero_or_pos (dgc (M 4) n 3 (p + 1)) with q | q
          · rw [q] at c66; exact absurd (Int32.le_refl _) c66
          · exact q)]; rfl) | (rw [show (f && decide (chM (M 4) n p = c)) = true from c62, decide_eq_false (show ¬ 0 < dgc (M 4) n 3 (p + 1) from fun q => absurd (show nI (dgc (M 4) n 3 (p + 1)) ≤ nI 0 from c66) (nI_ge q (by omega)))]; rfl) | (rw [show (f && decide (chM (M 4) n p = c)) = false from c62]; rfl)
