/-! the reference: the history, the text -/
def cp (n : Nat) (f g : Nat → Int32) : Nat → Int32 := fun k => if k < n then f k else g k
theorem cp_0 (f g : Nat → Int32) : cp 0 f g = g := by funext k; unfold cp; rw [if_neg (by omega)]
theorem cp_s (n : Nat) (f g : Nat → Int32) : upd (cp n f g) n (f n) = cp (n + 1) f g := by
  funext k; unfold cp upd
  by_cases h : k = n
  · subst h; rw [if_pos rfl, if_pos (by omega)]
  · rw [if_neg h]
    dsimp only
    by_cases h2 : k < n
    · rw [if_pos h2, if_pos (by omega)]
    · rw [if_neg h2, if_neg (by omega)]
theorem cp_hi {n k : Nat} (f g : Nat → Int32) (h : n ≤ k) : cp n f g k = g k := by unfold cp; rw [if_neg (by omega)]
theorem c_X5_begins {M : Pl} {b : Nat} {s : Nat → Int32} {w : Wd} : K_X5_begins [.ref b] (mz w b M s) (RV (mz w b (ua M 1 (cp 125 s (M 1))) s)) := by
  refine Con.mk [some (.ref b), none] (by decide) rfl rfl (Nat.le_of_ble_eq_true rfl) (fun X h hR hnm => ?_)
  have L : ∀ (d n : Nat), n + d = 125 → V X 0 0 2 [some (.ref b), some (.int (nI n))] [] (mz w b (ua M 1 (cp n s (M 1))) s) := by
    intro d
    induction d with
    | zero =>
      intro n hnd
      obtain rfl : n = 125 := by omega
      refine V.iload1 h 3 dX5_begins_2 rfl (V.bipush h 5 dX5_begins_3 rfl ic2_125 ?_)
      refine V.icmp_ge h 26 8 dX5_begins_5 rfl rfl (fun _ => ?_) (fun q => absurd (lp_out (n := 125)) q)
      refine V.vret h hR dX5_begins_26 ?_
      exact ⟨rfl, rfl⟩
    | succ d ih =>
      intro n hnd
      refine V.iload1 h 3 dX5_begins_2 rfl (V.bipush h 5 dX5_begins_3 rfl ic2_125 ?_)
      refine V.icmp_ge h 26 8 dX5_begins_5 rfl rfl (fun q => absurd q (lp_in (n := 125) (by omega))) (fun _ => ?_)
      refine V.aload0 h 9 dX5_begins_8 rfl (V.gX5 h 1 12 dX5_begins_9 rfl rfl k545 zo rfl (V.iload1 h 13 dX5_begins_12 rfl (V.aload0 h 14 dX5_begins_13 rfl (V.gX5 h 0 17 dX5_begins_14 rfl rfl k544 zo rfl (V.iload1 h 18 dX5_begins_17 rfl (V.ialdN h 19 dX5_begins_18 rfl za1 (by omega) (by decide) (V.iastN h 20 dX5_begins_19 rfl za2 (by omega) (by decide) ?_)))))))
      refine V.at _ zw2 (V.incN1 h 23 dX5_begins_20 rfl rfl (V.goto h 2 dX5_begins_23 rfl ?_))
      rw [ua_ua, show upd ((ua M 1 (cp n s (M 1))) 1) n (s n) = cp (n + 1) s (M 1) from cp_s n s (M 1)]
      exact ih (n + 1) (by omega)
  refine V.iconst h 1 dX5_begins_0 rfl ic1_0 (V.istore1 h 2 dX5_begins_1 rfl rfl ?_)
  have h0 := L 125 0 rfl
  rw [cp_0, ua_id] at h0
  exact h0
theorem c_X5_returns {M : Pl} {b : Nat} {s : Nat → Int32} {w : Wd} : K_X5_returns [.ref b] (mz w b M s) (RV (mz w b M (cp 125 (M 1) s))) := by
  refine Con.mk [some (.ref b), none] (by decide) rfl rfl (Nat.le_of_ble_eq_true rfl) (fun X h hR hnm => ?_)
  have L : ∀ (d n : Nat), n + d = 125 → V X 0 0 2 [some (.ref b), some (.int (nI n))] [] (mz w b M (cp n (M 1) s)) := by
    intro d
    induction d with
    | zero =>
      intro n hnd
      obtain rfl : n = 125 := by omega
      refine V.iload1 h 3 dX5_returns_2 rfl (V.bipush h 5 dX5_returns_3 rfl ic2_125 ?_)
      refine V.icmp_ge h 26 8 dX5_returns_5 rfl rfl (fun _ => ?_) (fun q => absurd (lp_out (n := 125)) q)
      refine V.vret h hR dX5_returns_26 ?_
      exact ⟨rfl, rfl⟩
    | succ d ih =>
      intro n hnd
      refine V.iload1 h 3 dX5_returns_2 rfl (V.bipush h 5 dX5_returns_3 rfl ic2_125 ?_)
      refine V.icmp_ge h 26 8 dX5_returns_5 rfl rfl (fun q => absurd q (lp_in (n := 125) (by omega))) (fun _ => ?_)
      refine V.aload0 h 9 dX5_returns_8 rfl (V.gX5 h 0 12 dX5_returns_9 rfl rfl k544 zo rfl (V.iload1 h 13 dX5_returns_12 rfl (V.aload0 h 14 dX5_returns_13 rfl (V.gX5 h 1 17 dX5_returns_14 rfl rfl k545 zo rfl (V.iload1 h 18 dX5_returns_17 rfl (V.ialdN h 19 dX5_returns_18 rfl za2 (by omega) (by decide) (V.iastN h 20 dX5_returns_19 rfl za1 (by omega) (by decide) ?_)))))))
      refine V.at _ zw1 (V.incN1 h 23 dX5_returns_20 rfl rfl (V.goto h 2 dX5_returns_23 rfl ?_))
      rw [cp_s]
      exact ih (n + 1) (by omega)
  refine V.iconst h 1 dX5_returns_0 rfl ic1_0 (V.istore1 h 2 dX5_returns_1 rfl rfl ?_)
  have h0 := L 125 0 rfl
  rw [cp_0] at h0
  exact h0
/-- the rows of the history with one more behind n of them -/
def hS (past : Nat → Int32) (n : Nat) : Nat → Int32 := if n = 4 then cp 375 (fun k => past (k + 125)) past else past
def hN (n : Nat) : Nat := if n = 4 then 3 else n
def hP (past begun : Nat → Int32) (n : Nat) (i : Nat) : Nat → Int32 := fun q => if 125 * n ≤ q ∧ q < 125 * n + i then begun (q - 125 * n) else past q
theorem c_X5_acted {M : Pl} {b n : Nat} {s : Nat → Int32} {a : Int32} {w : Wd} (h3 : M 3 0 = nI n) (h4 : n ≤ 4) : K_X5_acted [.ref b, .int a] (mz w b M s) (RI a (if a < 0 then mz w b M s else mz w b (us (ua M 2 (hP (hS (M 2) n) (M 1) (hN n) 125)) 3 (nI (hN n + 1))) s)) := by
  refine Con.mk [some (.ref b), some (.int a), none] (by decide) rfl rfl (Nat.le_of_ble_eq_true rfl) (fun X h hR hnm => ?_)
  have L2 : ∀ (B : Pl) (P : Nat → Int32) (k : Nat), k ≤ 3 → B 3 0 = nI k → B 1 = M 1 → (∀ u, V X 0 0 88 [some (.ref b), some (.int a), u] [] (mz w b (ua B 2 (hP P (M 1) k 125)) s)) → ∀ (d i : Nat), i + d = 125 → V X 0 0 56 [some (.ref b), some (.int a), some (.int (nI i))] [] (mz w b (ua B 2 (hP P (M 1) k i)) s) := by
    intro B P k hk hB3 hB1 kk d
    induction d with
    | zero =>
      intro i hid
      obtain rfl : i = 125 := by omega
      refine V.iload2 h 57 dX5_acted_56 rfl (V.bipush h 59 dX5_acted_57 rfl ic2_125 ?_)
      refine V.icmp_ge h 88 62 dX5_acted_59 rfl rfl (fun _ => ?_) (fun q => absurd (lp_out (n := 125)) q)
      exact kk _
    | succ d ih =>
      intro i hid
      refine V.iload2 h 57 dX5_acted_56 rfl (V.bipush h 59 dX5_acted_57 rfl ic2_125 ?_)
      refine V.icmp_ge h 88 62 dX5_acted_59 rfl rfl (fun q => absurd q (lp_in (n := 125) (by omega))) (fun _ => ?_)
      refine V.aload0 h 63 dX5_acted_62 rfl (V.gX5 h 2 66 dX5_acted_63 rfl rfl k546 zo rfl (V.bipush h 68 dX5_acted_66 rfl ic2_125 (V.aload0 h 69 dX5_acted_68 rfl (V.gX5 h 3 72 dX5_acted_69 rfl rfl k547 zo rfl (V.imul h 73 dX5_acted_72 rfl (V.iload2 h 74 dX5_acted_73 rfl (V.iadd h 75 dX5_acted_74 rfl ?_)))))))
      rw [show (125 : Int32) * (ua B 2 (hP P (M 1) k i)) 3 0 + nI i = nI (125 * k + i) by show (125 : Int32) * B 3 0 + nI i = _; rw [hB3, lit, pk_mul, nI_add]]
      refine V.aload0 h 76 dX5_acted_75 rfl (V.gX5 h 1 79 dX5_acted_76 rfl rfl k545 zo rfl (V.iload2 h 80 dX5_acted_79 rfl (V.ialdN h 81 dX5_acted_80 rfl za2 (by omega) (by decide) (V.iastN h 82 dX5_acted_81 rfl za3 (by omega) (by decide) (V.at _ zw3 (V.incN2 h 85 dX5_acted_82 rfl rfl (V.goto h 56 dX5_acted_85 rfl ?_)))))))
      rw [ua_ua, show upd ((ua B 2 (hP P (M 1) k i)) 2) (125 * k + i) ((ua B 2 (hP P (M 1) k i)) 1 i) = hP P (M 1) k (i + 1) from by
        funext q
        show upd (hP P (M 1) k i) (125 * k + i) (B 1 i) q = _
        rw [hB1]
        unfold upd hP
        by_cases hq : q = 125 * k + i
        · rw [if_pos hq, if_pos (by omega)]; congr 1; omega
        · rw [if_neg hq]
          by_cases h2 : 125 * k ≤ q ∧ q < 125 * k + i
          · rw [if_pos h2, if_pos (by omega)]
          · rw [if_neg h2, if_neg (by omega)]]
      exact ih (i + 1) (by omega)
  have L1 : ∀ (d i : Nat), i + d = 375 → (∀ u, V X 0 0 44 [some (.ref b), some (.int a), u] [] (mz w b (ua M 2 (cp 375 (fun k => M 2 (k + 125)) (M 2))) s)) → V X 0 0 16 [some (.ref b), some (.int a), some (.int (nI i))] [] (mz w b (ua M 2 (cp i (fun k => M 2 (k + 125)) (M 2))) s) := by
    intro d
    induction d with
    | zero =>
      intro i hid kk
      obtain rfl : i = 375 := by omega
      refine V.iload2 h 17 dX5_acted_16 rfl (V.sipush h 20 dX5_acted_17 rfl ic3_375 ?_)
      refine V.icmp_ge h 44 23 dX5_acted_20 rfl rfl (fun _ => ?_) (fun q => absurd (lp_out (n := 375)) q)
      exact kk _
    | succ d ih =>
      intro i hid kk
      refine V.iload2 h 17 dX5_acted_16 rfl (V.sipush h 20 dX5_acted_17 rfl ic3_375 ?_)
      refine V.icmp_ge h 44 23 dX5_acted_20 rfl rfl (fun q => absurd q (lp_in (n := 375) (by omega))) (fun _ => ?_)
      refine V.aload0 h 24 dX5_acted_23 rfl (V.gX5 h 2 27 dX5_acted_24 rfl rfl k546 zo rfl (V.iload2 h 28 dX5_acted_27 rfl (V.aload0 h 29 dX5_acted_28 rfl (V.gX5 h 2 32 dX5_acted_29 rfl rfl k546 zo rfl (V.iload2 h 33 dX5_acted_32 rfl (V.bipush h 35 dX5_acted_33 rfl ic2_125 (V.iadd h 36 dX5_acted_35 rfl ?_)))))))
      rw [show nI i + (125 : Int32) = nI (i + 125) from nI_lit i 125]
      refine V.ialdN h 37 dX5_acted_36 rfl za3 (by omega) (by decide) (V.iastN h 38 dX5_acted_37 rfl za3 (by omega) (by decide) (V.at _ zw3 (V.incN2 h 41 dX5_acted_38 rfl rfl (V.goto h 16 dX5_acted_41 rfl ?_))))
      rw [ua_ua, show upd ((ua M 2 (cp i (fun k => M 2 (k + 125)) (M 2))) 2) i ((ua M 2 (cp i (fun k => M 2 (k + 125)) (M 2))) 2 (i + 125)) = cp (i + 1) (fun k => M 2 (k + 125)) (M 2) from by
        rw [← cp_s]; show upd (cp i _ (M 2)) i (cp i (fun k => M 2 (k + 125)) (M 2) (i + 125)) = _; rw [cp_hi _ _ (show i ≤ i + 125 by omega)]]
      exact ih (i + 1) (by omega) kk
  have hP0 : ∀ (P : Nat → Int32) (k : Nat), hP P (M 1) k 0 = P := fun P k => by funext q; unfold hP; rw [if_neg (by omega)]
  by_cases ha : a < 0
  · rw [if_pos ha] at hR
    refine V.iload1 h 1 dX5_acted_0 rfl ?_
    refine V.if_ge h 6 4 dX5_acted_1 rfl rfl (fun q => absurd q (lt_n ha)) (fun _ => ?_)
    refine V.iload1 h 5 dX5_acted_4 rfl ?_
    refine V.iret h hR dX5_acted_5 ?_
    exact ⟨rfl, rfl⟩
  · rw [if_neg ha] at hR
    have fin : ∀ (B : Pl) (P : Nat → Int32) (k : Nat) (u : Option Value), hS (M 2) n = P → hN n = k → B 3 0 = nI k → (∀ Z y, us (ua B 2 Z) 3 y = us (ua M 2 Z) 3 y) → V X 0 0 88 [some (.ref b), some (.int a), u] [] (mz w b (ua B 2 (hP P (M 1) k 125)) s) := by
      intro B P k u e1 e2 e3 e4
      rw [e1, e2] at hR
      refine V.aload0 h 89 dX5_acted_88 rfl (V.dup h 90 dX5_acted_89 rfl rfl (V.gX5 h 3 93 dX5_acted_90 rfl rfl k547 zo rfl (V.iconst h 94 dX5_acted_93 rfl ic1_1 (V.iadd h 95 dX5_acted_94 rfl (V.sX5 h 3 98 dX5_acted_95 rfl rfl k547 rfl rfl rfl zo rfl (V.at _ zp3 (V.iload1 h 99 dX5_acted_98 rfl ?_)))))))
      refine V.iret h hR dX5_acted_99 ?_
      refine ⟨rfl, ?_⟩
      rw [e4]
      show mz w b (us _ 3 (B 3 0 + 1)) s = _
      rw [e3, ← nI_succ]
    by_cases hn4 : n = 4
    · subst hn4
      have hB : ∀ (v : Int32) (Z : Nat → Int32) (y : Int32), us (ua (us M 3 v) 2 Z) 3 y = us (ua M 2 Z) 3 y := by
        intro v Z y
        rw [us_ua _ _ _ (by decide), us_us, us_ua _ _ _ (by decide)]
      refine V.iload1 h 1 dX5_acted_0 rfl ?_
      refine V.if_ge h 6 4 dX5_acted_1 rfl rfl (fun _ => ?_) (fun q => absurd (nlt ha) q)
      refine V.aload0 h 7 dX5_acted_6 rfl (V.gX5 h 3 10 dX5_acted_7 rfl rfl k547 zo rfl (V.iconst h 11 dX5_acted_10 rfl ic1_4 ?_))
      refine V.icmp_ne h 54 14 dX5_acted_11 rfl rfl (fun q => absurd (show M 3 0 = 4 by rw [h3]; rfl) q) (fun _ => ?_)
      refine V.iconst h 15 dX5_acted_14 rfl ic1_0 (V.istore2 h 16 dX5_acted_15 rfl rfl ?_)
      have h0 := L1 375 0 rfl ?_
      · rw [cp_0, ua_id] at h0
        exact h0
      · intro u
        refine V.aload0 h 45 dX5_acted_44 rfl (V.dup h 46 dX5_acted_45 rfl rfl (V.gX5 h 3 49 dX5_acted_46 rfl rfl k547 zo rfl (V.iconst h 50 dX5_acted_49 rfl ic1_1 (V.isub h 51 dX5_acted_50 rfl (V.sX5 h 3 54 dX5_acted_51 rfl rfl k547 rfl rfl rfl zo rfl (V.at _ zp3 (V.iconst h 55 dX5_acted_54 rfl ic1_0 ?_)))))))
        refine V.istore2 h 56 dX5_acted_55 rfl rfl ?_
        have e3 : us (ua M 2 (cp 375 (fun k => M 2 (k + 125)) (M 2))) 3 ((ua M 2 (cp 375 (fun k => M 2 (k + 125)) (M 2))) 3 0 - 1) = ua (us M 3 (nI 3)) 2 (hP (cp 375 (fun k => M 2 (k + 125)) (M 2)) (M 1) 3 0) := by rw [hP0, us_ua _ _ _ (by decide)]; show ua (us M 3 (M 3 0 - 1)) 2 _ = _; rw [h3]; rfl
        rw [e3]
        exact L2 (us M 3 (nI 3)) _ 3 (Nat.le_refl _) rfl rfl (fun u => fin _ _ 3 u rfl rfl rfl (hB _)) 125 0 rfl
    · have e5 : hS (M 2) n = M 2 := by unfold hS; rw [if_neg hn4]
      have e6 : hN n = n := by unfold hN; rw [if_neg hn4]
      refine V.iload1 h 1 dX5_acted_0 rfl ?_
      refine V.if_ge h 6 4 dX5_acted_1 rfl rfl (fun _ => ?_) (fun q => absurd (nlt ha) q)
      refine V.aload0 h 7 dX5_acted_6 rfl (V.gX5 h 3 10 dX5_acted_7 rfl rfl k547 zo rfl (V.iconst h 11 dX5_acted_10 rfl ic1_4 ?_))
      refine V.icmp_ne h 54 14 dX5_acted_11 rfl rfl (fun _ => ?_) (fun q => absurd q (show ¬ M 3 0 = 4 by rw [h3]; intro q; exact hn4 (nI_inj (by omega) (by decide) q)))
      refine V.iconst h 55 dX5_acted_54 rfl ic1_0 (V.istore2 h 56 dX5_acted_55 rfl rfl ?_)
      have h0 := L2 M (M 2) n (by omega) h3 rfl (fun u => fin _ _ n u e5 e6 h3 (fun _ _ => rfl)) 125 0 rfl
      rw [hP0, ua_id] at h0
      exact h0
theorem c_X5_undo {M : Pl} {b n : Nat} {s : Nat → Int32} {w : Wd} (h3 : M 3 0 = nI n) (h4 : n ≤ 4) : K_X5_undo [.ref b] (mz w b M s) (RI (if n = 0 then -2 else nI (n - 1)) (if n = 0 then mz w b M s else mz w b (us M 3 (nI (n - 1))) (cp 125 (fun k => M 2 (125 * (n - 1) + k)) s))) := by
  refine Con.mk [some (.ref b), none] (by decide) rfl rfl (Nat.le_of_ble_eq_true rfl) (fun X h hR hnm => ?_)
  by_cases h0 : n = 0
  · subst h0
    refine V.aload0 h 1 dX5_undo_0 rfl (V.gX5 h 3 4 dX5_undo_1 rfl rfl k547 zo rfl ?_)
    refine V.if_ne h 10 7 dX5_undo_4 rfl rfl (fun q => absurd (show M 3 0 = 0 by rw [h3]; rfl) q) (fun _ => ?_)
    refine V.bipush h 9 dX5_undo_7 rfl ic2_m2 ?_
    refine V.iret h hR dX5_undo_9 ?_
    exact ⟨rfl, rfl⟩
  · rw [if_neg h0, if_neg h0] at hR
    obtain ⟨m, rfl⟩ : ∃ m, n = m + 1 := ⟨n - 1, by omega⟩
    have L : ∀ (d i : Nat), i + d = 125 → V X 0 0 22 [some (.ref b), some (.int (nI i))] [] (mz w b (us M 3 (nI m)) (cp i (fun k => M 2 (125 * m + k)) s)) := by
      intro d
      induction d with
      | zero =>
        intro i hid
        obtain rfl : i = 125 := by omega
        refine V.iload1 h 23 dX5_undo_22 rfl (V.bipush h 25 dX5_undo_23 rfl ic2_125 ?_)
        refine V.icmp_ge h 54 28 dX5_undo_25 rfl rfl (fun _ => ?_) (fun q => absurd (lp_out (n := 125)) q)
        refine V.aload0 h 55 dX5_undo_54 rfl (V.gX5 h 3 58 dX5_undo_55 rfl rfl k547 zo rfl ?_)
        refine V.iret h hR dX5_undo_58 ?_
        exact ⟨rfl, rfl⟩
      | succ d ih =>
        intro i hid
        refine V.iload1 h 23 dX5_undo_22 rfl (V.bipush h 25 dX5_undo_23 rfl ic2_125 ?_)
        refine V.icmp_ge h 54 28 dX5_undo_25 rfl rfl (fun q => absurd q (lp_in (n := 125) (by omega))) (fun _ => ?_)
        refine V.aload0 h 29 dX5_undo_28 rfl (V.gX5 h 0 32 dX5_undo_29 rfl rfl k544 zo rfl (V.iload1 h 33 dX5_undo_32 rfl (V.aload0 h 34 dX5_undo_33 rfl (V.gX5 h 2 37 dX5_undo_34 rfl rfl k546 zo rfl (V.bipush h 39 dX5_undo_37 rfl ic2_125 (V.aload0 h 40 dX5_undo_39 rfl (V.gX5 h 3 43 dX5_undo_40 rfl rfl k547 zo rfl ?_)))))))
        refine V.imul h 44 dX5_undo_43 rfl (V.iload1 h 45 dX5_undo_44 rfl (V.iadd h 46 dX5_undo_45 rfl ?_))
        rw [show (125 : Int32) * (us M 3 (nI m)) 3 0 + nI i = nI (125 * m + i) by show (125 : Int32) * nI m + nI i = _; rw [lit, pk_mul, nI_add]]
        refine V.ialdN h 47 dX5_undo_46 rfl za3 (by omega) (by decide) (V.iastN h 48 dX5_undo_47 rfl za1 (by omega) (by decide) (V.at _ zw1 (V.incN1 h 51 dX5_undo_48 rfl rfl (V.goto h 22 dX5_undo_51 rfl ?_))))
        rw [show upd (cp i (fun k => M 2 (125 * m + k)) s) i ((us M 3 (nI m)) 2 (125 * m + i)) = cp (i + 1) (fun k => M 2 (125 * m + k)) s from cp_s i (fun k => M 2 (125 * m + k)) s]
        exact ih (i + 1) (by omega)
    refine V.aload0 h 1 dX5_undo_0 rfl (V.gX5 h 3 4 dX5_undo_1 rfl rfl k547 zo rfl ?_)
    refine V.if_ne h 10 7 dX5_undo_4 rfl rfl (fun _ => ?_) (fun q => absurd q (show ¬ M 3 0 = 0 by rw [h3]; exact nI_ne0 (by omega) (by omega)))
    refine V.aload0 h 11 dX5_undo_10 rfl (V.dup h 12 dX5_undo_11 rfl rfl (V.gX5 h 3 15 dX5_undo_12 rfl rfl k547 zo rfl (V.iconst h 16 dX5_undo_15 rfl ic1_1 (V.isub h 17 dX5_undo_16 rfl (V.sX5 h 3 20 dX5_undo_17 rfl rfl k547 rfl rfl rfl zo rfl (V.at _ zp3 (V.iconst h 21 dX5_undo_20 rfl ic1_0 ?_)))))))
    refine V.istore1 h 22 dX5_undo_21 rfl rfl ?_
    have hl := L 125 0 rfl
    rw [cp_0] at hl
    rw [h3, nI_pred]
    exact hl
def mTy (M : Pl) (c : Int32) : Int32 × Pl :=
  if rng 32 c 126 = true then (if M 5 0 = 80 then (-3, M) else (M 5 0 + 1, us (ua M 4 (upd (M 4) (M 5 0).toNatClampNeg c)) 5 (M 5 0 + 1))) else (-1, M)
theorem c_X5_type {M : Pl} {b n : Nat} {s : Nat → Int32} {c : Int32} {w : Wd} (h5 : M 5 0 = nI n) (h80 : n ≤ 80) : K_X5_type [.ref b, .int c] (mz w b M s) (RI (mTy M c).1 (mz w b (mTy M c).2 s)) := by
  refine Con.mk [some (.ref b), some (.int c)] (by decide) rfl rfl (Nat.le_of_ble_eq_true rfl) (fun X h hR hnm => ?_)
  refine V.iload1 h 1 dX5_type_0 rfl (V.bipush h 3 dX5_type_1 rfl ic2_32 (V.bipush h 5 dX5_type_3 rfl ic2_126 (V.callSf (As := [.int _, .int _, .int _]) (st := []) h 8 dX5_type_5 rfl k604 k602 k603 k6 hd_X5_in ⟨(Nat.le_of_ble_eq_true rfl), (Nat.le_of_ble_eq_true rfl)⟩ (Nat.le_of_ble_eq_true rfl) ⟨Nat.zero_le _, Nat.zero_le _⟩ c_X5_in rfl ?_)))
  refine V.bif_ne h 13 11 dX5_type_8 rfl rfl (fun c8 => ?_) (fun c8 => ?_)
  · refine V.aload0 h 14 dX5_type_13 rfl (V.gX5 h 5 17 dX5_type_14 rfl rfl k549 zo rfl (V.bipush h 19 dX5_type_17 rfl ic2_80 ?_))
    refine V.icmp_ne h 25 22 dX5_type_19 rfl rfl (fun c19 => ?_) (fun c19 => ?_)
    · have hlt : n < 80 := by
        rcases Nat.lt_or_ge n 80 with q | q
        · exact q
        · exact absurd (by rw [h5, show n = 80 by omega]; rfl) c19
      have e : mTy M c = (M 5 0 + 1, us (ua M 4 (upd (M 4) n c)) 5 (M 5 0 + 1)) := by unfold mTy rng; rw [c8, if_pos rfl, if_neg c19, h5, nI_tn (by omega)]
      refine V.aload0 h 26 dX5_type_25 rfl (V.gX5 h 4 29 dX5_type_26 rfl rfl k548 zo rfl (V.aload0 h 30 dX5_type_29 rfl (V.gX5 h 5 33 dX5_type_30 rfl rfl k549 zo rfl ?_)))
      rw [h5]
      refine V.iload1 h 34 dX5_type_33 rfl (V.iastN h 35 dX5_type_34 rfl za4 (by omega) (by decide) (V.at _ zw4 (V.aload0 h 36 dX5_type_35 rfl (V.dup h 37 dX5_type_36 rfl rfl (V.gX5 h 5 40 dX5_type_37 rfl rfl k549 zo rfl (V.iconst h 41 dX5_type_40 rfl ic1_1 (V.iadd h 42 dX5_type_41 rfl ?_)))))))
      refine V.sX5 h 5 45 dX5_type_42 rfl rfl k549 rfl rfl rfl zo rfl (V.at _ zp5 (V.aload0 h 46 dX5_type_45 rfl (V.gX5 h 5 49 dX5_type_46 rfl rfl k549 zo rfl ?_)))
      refine V.iret h hR dX5_type_49 ?_
      rw [e]
      exact ⟨rfl, rfl⟩
    · refine V.bipush h 24 dX5_type_22 rfl ic2_m3 ?_
      refine V.iret h hR dX5_type_24 ?_
      exact ⟨by unfold mTy rng; rw [c8, if_pos rfl, if_pos c19], by unfold mTy rng; rw [c8, if_pos rfl, if_pos c19]⟩
  · refine V.iconst h 12 dX5_type_11 rfl ic1_m1 ?_
    refine V.iret h hR dX5_type_12 ?_
    exact ⟨by unfold mTy rng; rw [c8]; rfl, by unfold mTy rng; rw [c8]; rfl⟩
theorem c_X5_clearText {M : Pl} {b : Nat} {s : Nat → Int32} {w : Wd} : K_X5_clearText [.ref b] (mz w b M s) (RI (M 5 0) (mz w b (us M 5 0) s)) := by
  refine Con.mk [some (.ref b), none] (by decide) rfl rfl (Nat.le_of_ble_eq_true rfl) (fun X h hR hnm => ?_)
  refine V.aload0 h 1 dX5_clearText_0 rfl (V.gX5 h 5 4 dX5_clearText_1 rfl rfl k549 zo rfl (V.istore1 h 5 dX5_clearText_4 rfl rfl (V.aload0 h 6 dX5_clearText_5 rfl (V.iconst h 7 dX5_clearText_6 rfl ic1_0 (V.sX5 h 5 10 dX5_clearText_7 rfl rfl k549 rfl rfl rfl zo rfl (V.at _ zp5 (V.iload1 h 11 dX5_clearText_10 rfl ?_)))))))
  refine V.iret h hR dX5_clearText_11 ?_
  exact ⟨rfl, rfl⟩
