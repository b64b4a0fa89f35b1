/-! the class: numbers and commands read -/
theorem chS_rng {T : Nat → Int32} {n p : Nat} : rng 48 (chS T n p) 57 = rng 48 (chM T n p) 57 := by
  unfold chS chM
  by_cases h : p < n
  · rw [if_pos h, if_pos h]
  · rw [if_neg h, if_neg h]; decide
theorem rng_chM {T : Nat → Int32} {n p : Nat} (h : rng 48 (chS T n p) 57 = true) : chS T n p = chM T n p := by
  unfold chS chM at *
  by_cases h2 : p < n
  · rw [if_pos h2, if_pos h2]
  · rw [if_neg h2] at h; exact absurd h (by decide)
theorem chS_is {T : Nat → Int32} {n p : Nat} {c : Int32} (h0 : c ≠ 0) (h1 : c ≠ -1) : chS T n p = c ↔ chM T n p = c := by
  unfold chS chM
  by_cases h : p < n
  · rw [if_pos h, if_pos h]
  · rw [if_neg h, if_neg h]
    exact ⟨fun q => absurd q.symm h0, fun q => absurd q.symm h1⟩
theorem TOK_2 {S : Pl} {n : Nat} {N : Nat → Int32} (h : TOK S n) : TOK (ua S 2 N) n := h
theorem dig_e {a c : Int32} : a * 10 + (c - 48) = 10 * a + c - 48 := by
  rw [Int32.mul_comm, Int32.sub_eq_add_neg, Int32.sub_eq_add_neg, Int32.add_assoc]
theorem c_X3_readNumber {w : Wd} {s n p i : Nat} {P S : Pl} {f g : Nat → Int32} {v : Int32} (hT : TOK S n) (hp : p < 900) (hi : i < 5) : K_X3_readNumber [.ref s, .int (nI p), .int (nI i)] (xs w s P f g v S) (RI (nI (p + dgc (S 0) n 3 p)) (xs w s P f g v (ua S 2 (upd (S 2) i (dgv (S 0) n 3 p 0))))) := by
  refine Con.mk [some (.ref s), some (.int (nI p)), some (.int (nI i)), none, none] (by decide) rfl rfl (Nat.le_of_ble_eq_true rfl) (fun X h hR hnm => ?_)
  obtain ⟨DC, hDC⟩ : ∃ z, z = dgc (S 0) n 3 p := ⟨_, rfl⟩
  obtain ⟨DV, hDV⟩ : ∃ z, z = dgv (S 0) n 3 p 0 := ⟨_, rfl⟩
  rw [← hDC, ← hDV] at hR
  have L : ∀ (fu d : Nat) (x : Int32), d + fu = 3 → DC = d + dgc (S 0) n fu (p + d) → DV = dgv (S 0) n fu (p + d) x → V X 0 0 5 [some (.ref s), some (.int (nI p)), some (.int (nI i)), some (.int x), some (.int (nI (p + d)))] [] (xs w s P f g v S) := by
    have fin : ∀ (d : Nat) (x : Int32), DC = d → DV = x → V X 0 0 56 [some (.ref s), some (.int (nI p)), some (.int (nI i)), some (.int x), some (.int (nI (p + d)))] [] (xs w s P f g v S) := by
      intro d x e1 e2
      refine V.iload2 h 57 dX3_readNumber_56 rfl ?_
      refine V.if_lt h 72 60 dX3_readNumber_57 rfl rfl (fun q => absurd q (nI_pos (show i < 2 ^ 31 by omega))) (fun _ => ?_)
      refine V.iload2 h 61 dX3_readNumber_60 rfl (V.iconst h 62 dX3_readNumber_61 rfl ic1_5 ?_)
      refine V.icmp_ge h 72 65 dX3_readNumber_62 rfl rfl (fun q => absurd q (lp_in (n := 5) (by omega))) (fun _ => ?_)
      refine V.aload0 h 66 dX3_readNumber_65 rfl (V.gX3 h 2 69 dX3_readNumber_66 rfl rfl k167 xo rfl (V.iload2 h 70 dX3_readNumber_69 rfl (V.iload3 h 71 dX3_readNumber_70 rfl (V.iastN h 72 dX3_readNumber_71 rfl xa2 (by omega) (by decide) (V.at _ xw2 (V.iload4 h 74 dX3_readNumber_72 rfl ?_))))))
      refine V.iret h hR dX3_readNumber_74 ?_
      exact ⟨by rw [e1], by rw [e2]⟩
    intro fu
    induction fu with
    | zero =>
      intro d x hd e1 e2
      obtain rfl : d = 3 := by omega
      refine V.iload4 h 7 dX3_readNumber_5 rfl (V.iload1 h 8 dX3_readNumber_7 rfl (V.iconst h 9 dX3_readNumber_8 rfl ic1_3 (V.iadd h 10 dX3_readNumber_9 rfl ?_)))
      refine V.icmp_ge h 56 13 dX3_readNumber_10 rfl rfl (fun _ => ?_) (fun q => absurd (show nI p + 3 ≤ nI (p + 3) by rw [show nI p + (3 : Int32) = nI (p + 3) from nI_lit p 3]; exact Int32.le_refl _) q)
      exact fin 3 x e1 e2
    | succ fu ih =>
      intro d x hd e1 e2
      rw [dgc] at e1
      rw [dgv] at e2
      by_cases hr : rng 48 (chM (S 0) n (p + d)) 57 = true
      · rw [if_pos hr] at e1 e2
        have hr2 : rng 48 (chS (S 0) n (p + d)) 57 = true := by rw [chS_rng]; exact hr
        have ec := rng_chM hr2
        rw [← ec] at e2
        unfold rng at hr2
        rw [Bool.and_eq_true] at hr2
        refine V.iload4 h 7 dX3_readNumber_5 rfl (V.iload1 h 8 dX3_readNumber_7 rfl (V.iconst h 9 dX3_readNumber_8 rfl ic1_3 (V.iadd h 10 dX3_readNumber_9 rfl ?_)))
        refine V.icmp_ge h 56 13 dX3_readNumber_10 rfl rfl (fun q => absurd q (show ¬ nI p + 3 ≤ nI (p + d) by rw [show nI p + (3 : Int32) = nI (p + 3) from nI_lit p 3]; exact nI_ge (by omega) (by omega))) (fun _ => ?_)
        refine V.aload0 h 14 dX3_readNumber_13 rfl (V.iload4 h 16 dX3_readNumber_14 rfl (V.callVf (As := [.int _]) (st := []) h 19 dX3_readNumber_16 rfl k512 k509 k511 ks48 k5 hd_X3_signAt ⟨(Nat.le_of_ble_eq_true rfl), (Nat.le_of_ble_eq_true rfl)⟩ (Nat.le_of_ble_eq_true rfl) xo rfl rfl ⟨Nat.zero_le _, Nat.zero_le _⟩ (c_X3_signAt hT (by omega)) rfl (V.bipush h 21 dX3_readNumber_19 rfl ic2_48 ?_)))
        refine V.icmp_lt h 56 24 dX3_readNumber_21 rfl rfl (fun q => absurd q (le_n (of_decide_eq_true hr2.1))) (fun _ => ?_)
        refine V.aload0 h 25 dX3_readNumber_24 rfl (V.iload4 h 27 dX3_readNumber_25 rfl (V.callVf (As := [.int _]) (st := []) h 30 dX3_readNumber_27 rfl k512 k509 k511 ks48 k5 hd_X3_signAt ⟨(Nat.le_of_ble_eq_true rfl), (Nat.le_of_ble_eq_true rfl)⟩ (Nat.le_of_ble_eq_true rfl) xo rfl rfl ⟨Nat.zero_le _, Nat.zero_le _⟩ (c_X3_signAt hT (by omega)) rfl (V.bipush h 32 dX3_readNumber_30 rfl ic2_57 ?_)))
        refine V.icmp_gt h 56 35 dX3_readNumber_32 rfl rfl (fun q => absurd q (le_n (of_decide_eq_true hr2.2))) (fun _ => ?_)
        refine V.iload3 h 36 dX3_readNumber_35 rfl (V.bipush h 38 dX3_readNumber_36 rfl ic2_10 (V.imul h 39 dX3_readNumber_38 rfl (V.aload0 h 40 dX3_readNumber_39 rfl (V.iload4 h 42 dX3_readNumber_40 rfl (V.callVf (As := [.int _]) (st := [.int _]) h 45 dX3_readNumber_42 rfl k512 k509 k511 ks48 k5 hd_X3_signAt ⟨(Nat.le_of_ble_eq_true rfl), (Nat.le_of_ble_eq_true rfl)⟩ (Nat.le_of_ble_eq_true rfl) xo rfl rfl ⟨Nat.zero_le _, Nat.zero_le _⟩ (c_X3_signAt hT (by omega)) rfl (V.bipush h 47 dX3_readNumber_45 rfl ic2_48 (V.isub h 48 dX3_readNumber_47 rfl ?_)))))))
        refine V.iadd h 49 dX3_readNumber_48 rfl ?_
        rw [dig_e]
        refine V.istore3 h 50 dX3_readNumber_49 rfl rfl (V.incN4 h 53 dX3_readNumber_50 rfl rfl (V.goto h 5 dX3_readNumber_53 rfl ?_))
        exact ih (d + 1) _ (by omega) (by rw [e1]; show d + (dgc (S 0) n fu (p + d + 1) + 1) = d + 1 + dgc (S 0) n fu (p + (d + 1)); rw [show p + (d + 1) = p + d + 1 by omega]; omega) (by rw [e2]; rfl)
      · rw [if_neg hr] at e1 e2
        have hr2 : rng 48 (chS (S 0) n (p + d)) 57 = false := by rw [chS_rng]; simpa using hr
        refine V.iload4 h 7 dX3_readNumber_5 rfl (V.iload1 h 8 dX3_readNumber_7 rfl (V.iconst h 9 dX3_readNumber_8 rfl ic1_3 (V.iadd h 10 dX3_readNumber_9 rfl ?_)))
        refine V.icmp_ge h 56 13 dX3_readNumber_10 rfl rfl (fun q => absurd q (show ¬ nI p + 3 ≤ nI (p + d) by rw [show nI p + (3 : Int32) = nI (p + 3) from nI_lit p 3]; exact nI_ge (by omega) (by omega))) (fun _ => ?_)
        refine V.aload0 h 14 dX3_readNumber_13 rfl (V.iload4 h 16 dX3_readNumber_14 rfl (V.callVf (As := [.int _]) (st := []) h 19 dX3_readNumber_16 rfl k512 k509 k511 ks48 k5 hd_X3_signAt ⟨(Nat.le_of_ble_eq_true rfl), (Nat.le_of_ble_eq_true rfl)⟩ (Nat.le_of_ble_eq_true rfl) xo rfl rfl ⟨Nat.zero_le _, Nat.zero_le _⟩ (c_X3_signAt hT (by omega)) rfl (V.bipush h 21 dX3_readNumber_19 rfl ic2_48 ?_)))
        refine V.icmp_lt h 56 24 dX3_readNumber_21 rfl rfl (fun c21 => ?_) (fun c21 => ?_)
        · exact fin d x e1 e2
        · refine V.aload0 h 25 dX3_readNumber_24 rfl (V.iload4 h 27 dX3_readNumber_25 rfl (V.callVf (As := [.int _]) (st := []) h 30 dX3_readNumber_27 rfl k512 k509 k511 ks48 k5 hd_X3_signAt ⟨(Nat.le_of_ble_eq_true rfl), (Nat.le_of_ble_eq_true rfl)⟩ (Nat.le_of_ble_eq_true rfl) xo rfl rfl ⟨Nat.zero_le _, Nat.zero_le _⟩ (c_X3_signAt hT (by omega)) rfl (V.bipush h 32 dX3_readNumber_30 rfl ic2_57 ?_)))
          refine V.icmp_gt h 56 35 dX3_readNumber_32 rfl rfl (fun c32 => ?_) (fun c32 => ?_)
          · exact fin d x e1 e2
          · exact absurd (rng_t c21 (nlt c32)) (by rw [hr2]; decide)
  refine V.iconst h 1 dX3_readNumber_0 rfl ic1_0 (V.istore3 h 2 dX3_readNumber_1 rfl rfl (V.iload1 h 3 dX3_readNumber_2 rfl (V.istore4 h 5 dX3_readNumber_3 rfl rfl ?_)))
  exact L 3 0 0 rfl (by rw [hDC, Nat.zero_add, Nat.add_zero]) hDV
theorem prF_no {T : Nat → Int32} {n p : Nat} {c : Int32} {k : Nat} (h : prF T n p c k = false) : ∀ m, k ≤ m → prF T n p c m = false := by
  intro m hm
  obtain ⟨d, rfl⟩ : ∃ d, m = k + d := ⟨m - k, by omega⟩
  clear hm
  induction d with
  | zero => exact h
  | succ d ih =>
    show (prF T n p c (k + d) && _ && _) = false
    rw [ih]; rfl
theorem cmC_many {c : Int32} (h : cmdS c = true) : cmC c = cMany c := by
  unfold cmC cMany
  by_cases h1 : c = 112
  · rw [if_pos h1, if_pos h1]
  · rw [if_neg h1, if_neg h1, if_pos h]
theorem cmC_0 {c : Int32} : cmC c = 0 ↔ cmdS c = false := by
  unfold cmC
  by_cases h1 : c = 112
  · rw [if_pos h1, h1]; decide
  · rw [if_neg h1]
    cases h : cmdS c
    · simp
    · simp
theorem c_X3_readCommand {w : Wd} {s n p : Nat} {P S : Pl} {f g : Nat → Int32} {v : Int32} (hT : TOK S n) (hp : p < n) : K_X3_readCommand [.ref s, .int (nI p)] (xs w s P f g v S) (RE (if cF (S 0) n p = true then nI (cP (S 0) n p) else -1) (fun u => ∃ N, (cF (S 0) n p = true → N = cN (S 0) n p (S 2)) ∧ u = xs w s P f g v (ua S 2 N))) := by
  refine Con.mk [some (.ref s), some (.int (nI p)), none, none, none, none, none] (by decide) rfl rfl (Nat.le_of_ble_eq_true rfl) (fun X h hR hnm => ?_)
  have h80 := hT.2.1
  have ech : chS (S 0) n p = chM (S 0) n p := by unfold chS chM; rw [if_pos hp, if_pos hp]
  obtain ⟨c, hc⟩ : ∃ c, c = chM (S 0) n p := ⟨_, rfl⟩
  have bad : cF (S 0) n p = false → ∀ N, RE (if cF (S 0) n p = true then nI (cP (S 0) n p) else -1) (fun u => ∃ N, (cF (S 0) n p = true → N = cN (S 0) n p (S 2)) ∧ u = xs w s P f g v (ua S 2 N)) (some (.int (-1))) (xs w s P f g v (ua S 2 N)) := by
    intro hf N
    rw [hf]
    exact ⟨rfl, N, (fun q => by cases q), rfl⟩
  by_cases hcm : cmdS c = true
  · have ewm : cmC c = cMany c := cmC_many hcm
    have hw5 : cMany c ≤ 5 := by unfold cMany; split <;> omega
    have hw1 : 1 ≤ cMany c := by unfold cMany; split <;> omega
    have L : ∀ (d i : Nat) (u1 u2 : Option Value), i + d = cMany c → prF (S 0) n p c i = true → (0 < i → chM (S 0) n (prP (S 0) n p i) = if i < cMany c then 44 else 59) →
        V X 0 0 23 [some (.ref s), some (.int (nI p)), some (.int (nI (cMany c))), some (.int (nI (prP (S 0) n p i + 1))), some (.int (nI i)), u1, u2] [] (xs w s P f g v (ua S 2 (prN (S 0) n p (S 2) i))) := by
      intro d
      induction d with
      | zero =>
        intro i u1 u2 hi hF hs
        obtain rfl : i = cMany c := by omega
        have hcF : cF (S 0) n p = true := by
          unfold cF
          rw [← hc, hF, decide_eq_true ((hs (by omega)).trans (if_neg (by omega)))]; rfl
        refine V.iload4 h 25 dX3_readCommand_23 rfl (V.iload2 h 26 dX3_readCommand_25 rfl ?_)
        refine V.icmp_ge h 85 29 dX3_readCommand_26 rfl rfl (fun _ => ?_) (fun q => absurd (lp_out (n := cMany c)) q)
        refine V.iload3 h 86 dX3_readCommand_85 rfl ?_
        refine V.iret h hR dX3_readCommand_86 ?_
        refine ⟨?_, _, fun _ => ?_, rfl⟩
        · rw [hcF, if_pos rfl]; unfold cP; rw [← hc]
        · unfold cN; rw [← hc]
      | succ d ih =>
        intro i u1 u2 hi hF hs
        have hpl := prP_le (S 0) n p i
        have hdl := dgc_le (S 0) n 3 (prP (S 0) n p i + 1)
        have hT2 : TOK (ua S 2 (prN (S 0) n p (S 2) i)) n := hT
        have hT3 : TOK (ua S 2 (prN (S 0) n p (S 2) (i + 1))) n := hT
        have eP : prP (S 0) n p (i + 1) = prP (S 0) n p i + 1 + dgc (S 0) n 3 (prP (S 0) n p i + 1) := rfl
        have hFi : prF (S 0) n p c (i + 1) = decide (0 < dgc (S 0) n 3 (prP (S 0) n p i + 1)) := by
          show (prF (S 0) n p c i && decide (chM (S 0) n (prP (S 0) n p i) = if i = 0 then c else 44) && _) = _
          rw [hF, Bool.true_and]
          by_cases h0 : i = 0
          · subst h0
            rw [if_pos rfl, decide_eq_true (show chM (S 0) n (prP (S 0) n p 0) = c from hc.symm), Bool.true_and]
          · rw [if_neg h0, decide_eq_true ((hs (by omega)).trans (if_pos (by omega))), Bool.true_and]
        have hno : prF (S 0) n p c (i + 1) = false → cF (S 0) n p = false := by
          intro q
          unfold cF
          rw [← hc, prF_no q (cMany c) (by omega)]; rfl
        have hbad2 : ∀ sg : Int32, sg = (if i + 1 < cMany c then 44 else 59) → ¬ chS (S 0) n (prP (S 0) n p (i + 1)) = sg → cF (S 0) n p = false := by
          intro sg hsg hne
          unfold cF
          rw [← hc]
          by_cases h2 : i + 1 < cMany c
          · rw [if_pos h2] at hsg
            subst hsg
            rw [chS_is (by decide) (by decide)] at hne
            have : prF (S 0) n p c (i + 1 + 1) = false := by
              show (prF (S 0) n p c (i + 1) && decide (chM (S 0) n (prP (S 0) n p (i + 1)) = if i + 1 = 0 then c else 44) && _) = _
              rw [if_neg (by omega), decide_eq_false hne, Bool.and_false]; rfl
            rw [prF_no this (cMany c) (by omega)]; rfl
          · rw [if_neg h2] at hsg
            subst hsg
            rw [chS_is (by decide) (by decide)] at hne
            rw [show cMany c = i + 1 by omega, decide_eq_false hne, Bool.and_false]
        have ok2 : ∀ sg : Int32, sg = (if i + 1 < cMany c then 44 else 59) → chS (S 0) n (prP (S 0) n p (i + 1)) = sg → chM (S 0) n (prP (S 0) n p (i + 1)) = if i + 1 < cMany c then 44 else 59 := by
          intro sg hsg he
          rw [← hsg]
          refine (chS_is ?_ ?_).mp he
          · rw [hsg]; split <;> decide
          · rw [hsg]; split <;> decide
        have B : ∀ (sg : Int32), sg = (if i + 1 < cMany c then 44 else 59) → V X 0 0 53 [some (.ref s), some (.int (nI p)), some (.int (nI (cMany c))), some (.int (nI (prP (S 0) n p i + 1))), some (.int (nI i)), some (.int (nI (prP (S 0) n p (i + 1)))), u2] [.int sg] (xs w s P f g v (ua S 2 (prN (S 0) n p (S 2) (i + 1)))) := by
          intro sg hsg
          by_cases h0 : dgc (S 0) n 3 (prP (S 0) n p i + 1) = 0
          · refine V.istore6 h 55 dX3_readCommand_53 rfl rfl (V.iload5 h 57 dX3_readCommand_55 rfl (V.iload3 h 58 dX3_readCommand_57 rfl ?_))
            refine V.icmp_eq h 72 61 dX3_readCommand_58 rfl rfl (fun _ => ?_) (fun q => absurd (show nI (prP (S 0) n p (i + 1)) = nI (prP (S 0) n p i + 1) by rw [eP, h0, Nat.add_zero]) q)
            refine V.iconst h 73 dX3_readCommand_72 rfl ic1_m1 ?_
            refine V.iret h hR dX3_readCommand_73 ?_
            exact bad (hno (by rw [hFi, h0]; rfl)) _
          · have hne : ¬ nI (prP (S 0) n p (i + 1)) = nI (prP (S 0) n p i + 1) := fun q => by
              have := nI_inj (by omega) (by omega) q
              omega
            refine V.istore6 h 55 dX3_readCommand_53 rfl rfl (V.iload5 h 57 dX3_readCommand_55 rfl (V.iload3 h 58 dX3_readCommand_57 rfl ?_))
            refine V.icmp_eq h 72 61 dX3_readCommand_58 rfl rfl (fun q => absurd q hne) (fun _ => ?_)
            refine V.aload0 h 62 dX3_readCommand_61 rfl (V.iload5 h 64 dX3_readCommand_62 rfl (V.callVf (As := [.int _]) (st := []) h 67 dX3_readCommand_64 rfl k512 k509 k511 ks48 k5 hd_X3_signAt ⟨(Nat.le_of_ble_eq_true rfl), (Nat.le_of_ble_eq_true rfl)⟩ (Nat.le_of_ble_eq_true rfl) xo rfl rfl ⟨Nat.zero_le _, Nat.zero_le _⟩ (c_X3_signAt hT3 (by omega)) rfl (V.iload6 h 69 dX3_readCommand_67 rfl ?_)))
            refine V.icmp_eq h 74 72 dX3_readCommand_69 rfl rfl (fun c69 => ?_) (fun c69 => ?_)
            · refine V.iload5 h 76 dX3_readCommand_74 rfl (V.iconst h 77 dX3_readCommand_76 rfl ic1_1 (V.iadd h 78 dX3_readCommand_77 rfl ?_))
              rw [show nI (prP (S 0) n p (i + 1)) + 1 = nI (prP (S 0) n p (i + 1) + 1) from (nI_succ _).symm]
              refine V.istore3 h 79 dX3_readCommand_78 rfl rfl (V.incN4 h 82 dX3_readCommand_79 rfl rfl (V.goto h 23 dX3_readCommand_82 rfl ?_))
              exact ih (i + 1) _ _ (by omega) (by rw [hFi, decide_eq_true (by omega)]) (fun _ => ok2 sg hsg c69)
            · refine V.iconst h 73 dX3_readCommand_72 rfl ic1_m1 ?_
              refine V.iret h hR dX3_readCommand_73 ?_
              exact bad (hbad2 sg hsg c69) _
        refine V.iload4 h 25 dX3_readCommand_23 rfl (V.iload2 h 26 dX3_readCommand_25 rfl ?_)
        refine V.icmp_ge h 85 29 dX3_readCommand_26 rfl rfl (fun q => absurd q (lp_in (n := cMany c) (by omega) (by omega))) (fun _ => ?_)
        refine V.aload0 h 30 dX3_readCommand_29 rfl (V.iload3 h 31 dX3_readCommand_30 rfl (V.iload4 h 33 dX3_readCommand_31 rfl (V.callVf (As := [.int _, .int _]) (st := []) h 36 dX3_readCommand_33 rfl k520 k517 k519 ks50 k5 hd_X3_readNumber ⟨(Nat.le_of_ble_eq_true rfl), (Nat.le_of_ble_eq_true rfl)⟩ (Nat.le_of_ble_eq_true rfl) xo rfl rfl ⟨Nat.zero_le _, Nat.zero_le _⟩ (c_X3_readNumber hT2 (by omega) (by omega)) rfl ?_)))
        rw [show (ua S 2 (prN (S 0) n p (S 2) i)) 0 = S 0 from rfl, ← eP]
        refine V.at (xs w s P f g v (ua S 2 (prN (S 0) n p (S 2) (i + 1)))) (by rw [ua_ua]; rfl) ?_
        refine V.istore5 h 38 dX3_readCommand_36 rfl rfl (V.iload4 h 40 dX3_readCommand_38 rfl (V.iconst h 41 dX3_readCommand_40 rfl ic1_1 (V.iadd h 42 dX3_readCommand_41 rfl ?_)))
        rw [show nI i + 1 = nI (i + 1) from (nI_succ _).symm]
        refine V.iload2 h 43 dX3_readCommand_42 rfl ?_
        refine V.icmp_ge h 51 46 dX3_readCommand_43 rfl rfl (fun c43 => ?_) (fun c43 => ?_)
        · refine V.bipush h 53 dX3_readCommand_51 rfl ic2_59 ?_
          first
          | exact B 44 (by rw [if_pos (by apply Classical.byContradiction; intro q; exact c43 (nI_le (show cMany c ≤ i + 1 by omega) (by omega)))])
          | exact B 59 (by rw [if_neg (fun q => absurd c43 (nI_ge q (by omega)))])
        · refine V.bipush h 48 dX3_readCommand_46 rfl ic2_44 (V.goto h 53 dX3_readCommand_48 rfl ?_)
          first
          | exact B 44 (by rw [if_pos (by apply Classical.byContradiction; intro q; exact c43 (nI_le (show cMany c ≤ i + 1 by omega) (by omega)))])
          | exact B 59 (by rw [if_neg (fun q => absurd c43 (nI_ge q (by omega)))])
    refine V.aload0 h 1 dX3_readCommand_0 rfl (V.aload0 h 2 dX3_readCommand_1 rfl (V.iload1 h 3 dX3_readCommand_2 rfl (V.callVf (As := [.int _]) (st := [.ref _]) h 6 dX3_readCommand_3 rfl k512 k509 k511 ks48 k5 hd_X3_signAt ⟨(Nat.le_of_ble_eq_true rfl), (Nat.le_of_ble_eq_true rfl)⟩ (Nat.le_of_ble_eq_true rfl) xo rfl rfl ⟨Nat.zero_le _, Nat.zero_le _⟩ (c_X3_signAt hT (by omega)) rfl ?_)))
    rw [ech, ← hc]
    refine V.callVf (As := [.int _]) (st := []) h 9 dX3_readCommand_6 rfl k516 k513 k515 ks49 k5 hd_X3_numbersBehind ⟨(Nat.le_of_ble_eq_true rfl), (Nat.le_of_ble_eq_true rfl)⟩ (Nat.le_of_ble_eq_true rfl) xo rfl rfl ⟨Nat.zero_le _, Nat.zero_le _⟩ c_X3_numbersBehind rfl ?_
    rw [ewm]
    refine V.istore2 h 10 dX3_readCommand_9 rfl rfl (V.iload2 h 11 dX3_readCommand_10 rfl ?_)
    refine V.if_ne h 16 14 dX3_readCommand_11 rfl rfl (fun _ => ?_) (fun q => absurd q (nI_ne0 (show 0 < cMany c by omega) (by omega)))
    refine V.iload1 h 17 dX3_readCommand_16 rfl (V.iconst h 18 dX3_readCommand_17 rfl ic1_1 (V.iadd h 19 dX3_readCommand_18 rfl ?_))
    rw [show nI p + 1 = nI (p + 1) from (nI_succ _).symm]
    refine V.istore3 h 20 dX3_readCommand_19 rfl rfl (V.iconst h 21 dX3_readCommand_20 rfl ic1_0 (V.istore4 h 23 dX3_readCommand_21 rfl rfl ?_))
    have l := L (cMany c) 0 none none (by omega) hcm (fun q => absurd q (by omega))
    rw [show ua S 2 (prN (S 0) n p (S 2) 0) = S from ua_id S 2] at l
    exact l
  · have hcm : cmdS c = false := by simpa using hcm
    have hcF : cF (S 0) n p = false := by
      unfold cF
      rw [← hc, prF_no (k := 0) (show prF (S 0) n p c 0 = false from hcm) _ (Nat.zero_le _)]; rfl
    refine V.aload0 h 1 dX3_readCommand_0 rfl (V.aload0 h 2 dX3_readCommand_1 rfl (V.iload1 h 3 dX3_readCommand_2 rfl (V.callVf (As := [.int _]) (st := [.ref _]) h 6 dX3_readCommand_3 rfl k512 k509 k511 ks48 k5 hd_X3_signAt ⟨(Nat.le_of_ble_eq_true rfl), (Nat.le_of_ble_eq_true rfl)⟩ (Nat.le_of_ble_eq_true rfl) xo rfl rfl ⟨Nat.zero_le _, Nat.zero_le _⟩ (c_X3_signAt hT (by omega)) rfl ?_)))
    rw [ech, ← hc]
    refine V.callVf (As := [.int _]) (st := []) h 9 dX3_readCommand_6 rfl k516 k513 k515 ks49 k5 hd_X3_numbersBehind ⟨(Nat.le_of_ble_eq_true rfl), (Nat.le_of_ble_eq_true rfl)⟩ (Nat.le_of_ble_eq_true rfl) xo rfl rfl ⟨Nat.zero_le _, Nat.zero_le _⟩ c_X3_numbersBehind rfl ?_
    rw [cmC_0.mpr hcm]
    refine V.istore2 h 10 dX3_readCommand_9 rfl rfl (V.iload2 h 11 dX3_readCommand_10 rfl ?_)
    refine V.if_ne h 16 14 dX3_readCommand_11 rfl rfl (fun q => absurd rfl q) (fun _ => ?_)
    refine V.iconst h 15 dX3_readCommand_14 rfl ic1_m1 ?_
    refine V.iret h hR dX3_readCommand_15 ?_
    have b := bad hcF (S 2)
    rw [ua_id] at b
    exact b
