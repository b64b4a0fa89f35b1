/-! the class: who stands -/
def jr (f g : Nat → Int32) (v : Int32) : Pl := fun i => match i with
  | 1 => f
  | 2 => g
  | 3 => fun _ => v
  | _ => fun _ => 0
def jt (w : Wd) (p j : Nat) (f g : Nat → Int32) (v : Int32) : Wd := js w p j (jr f g v)
section JT
variable {w : Wd} {p j : Nat} {f g f' g' : Nat → Int32} {v v' : Int32}
theorem jto : (jt w p j f g v).2 j = some (.inr (1, [.ref p, .ref (j + 1), .ref (j + 2), .int v])) := jo
theorem jta1 : (jt w p j f g v).2 (j + 1) = some (ints 4 f) := ja1
theorem jta2 : (jt w p j f g v).2 (j + 2) = some (ints 4 g) := ja2
theorem jtp3 : wset (jt w p j f g v) j (.inr (1, ([.ref p, .ref (j + 1), .ref (j + 2), .int v] : List Value).set 3 (.int v'))) = jt w p j f g v' := by
  refine (jp3 (J := jr f g v)).trans ?_
  unfold jt; congr 1; funext i; match i with
  | 0 => rfl
  | 1 => rfl
  | 2 => rfl
  | 3 => rfl
  | n + 4 => rfl
theorem jtw1 : wset (jt w p j f g v) (j + 1) (ints 4 f') = jt w p j f' g v := by
  refine (jw1 (J := jr f g v)).trans ?_
  unfold jt; congr 1; funext i; match i with
  | 0 => rfl
  | 1 => rfl
  | 2 => rfl
  | 3 => rfl
  | n + 4 => rfl
theorem jtw2 : wset (jt w p j f g v) (j + 2) (ints 4 g') = jt w p j f g' v := by
  refine (jw2 (J := jr f g v)).trans ?_
  unfold jt; congr 1; funext i; match i with
  | 0 => rfl
  | 1 => rfl
  | 2 => rfl
  | 3 => rfl
  | n + 4 => rfl
theorem jt_P {P : Pl} (h : PlaceAt w p P) (hd : p + 10 ≤ j ∨ j + 3 ≤ p) : PlaceAt (jt w p j f g v) p P := PlaceAt_js h hd
end JT
def gsf (P : Pl) (M : Int32) (n k : Nat) : Int32 := sm (fun i => if (Bt M i && decide (P 9 i = nI k)) = true then P 10 i else 0) n
def gcf (P : Pl) (M : Int32) (n k : Nat) : Int32 := sm (fun i => if (Bt M i && decide (P 9 i = nI k)) = true then 1 else 0) n
def gvr (P : Pl) (M : Int32) : Nat → Int32
  | 0 => 0
  | n + 1 => if (Bt M n && (decide (0 ≤ P 9 n) && decide (P 9 n < 4))) = true then gvr P M n ||| pw (P 8 n) else gvr P M n
def Gat (P : Pl) (M : Int32) (f g : Nat → Int32) (v : Int32) : Prop := (∀ k, k < 4 → f k = gsf P M 13 k) ∧ (∀ k, k < 4 → g k = gcf P M 13 k) ∧ v = gvr P M 13
theorem gsf_no {P : Pl} {M : Int32} {n k : Nat} (h : (Bt M n && decide (P 9 n = nI k)) = false) : gsf P M (n + 1) k = gsf P M n k := by
  unfold gsf; rw [sm_s, if_neg (by rw [h]; decide), Int32.add_zero]
theorem gcf_no {P : Pl} {M : Int32} {n k : Nat} (h : (Bt M n && decide (P 9 n = nI k)) = false) : gcf P M (n + 1) k = gcf P M n k := by
  unfold gcf; rw [sm_s, if_neg (by rw [h]; decide), Int32.add_zero]
theorem c_X1_gather {w : Wd} {p j : Nat} {P : Pl} {f g : Nat → Int32} {v M : Int32} (hP0 : PlaceAt w p P) (hd : p + 10 ≤ j ∨ j + 3 ≤ p) : K_X1_gather [.ref j, .int M] (jt w p j f g v) (RVE (fun u => ∃ f g v, Gat P M f g v ∧ u = jt w p j f g v)) := by
  refine Con.mk [some (.ref j), some (.int M), none, none] (by decide) rfl rfl (Nat.le_of_ble_eq_true rfl) (fun X h hR hnm => ?_)
  have hP : ∀ f g v, PlaceAt (jt w p j f g v) p P := fun _ _ _ => jt_P hP0 hd
  have L2 : ∀ (d n : Nat) (f g : Nat → Int32) (v : Int32) (u : Option Value), n + d = 13 → (∀ k, k < 4 → f k = gsf P M n k) → (∀ k, k < 4 → g k = gcf P M n k) → v = gvr P M n → V X 0 0 34 [some (.ref j), some (.int M), some (.int (nI n)), u] [] (jt w p j f g v) := by
    intro d
    induction d with
    | zero =>
      intro n f g v u hnd hf hg hv
      obtain rfl : n = 13 := by omega
      refine V.iload2 h 35 dX1_gather_34 rfl (V.bipush h 37 dX1_gather_35 rfl ic2_13 ?_)
      refine V.icmp_ge h 121 40 dX1_gather_37 rfl rfl (fun _ => ?_) (fun q => absurd (lp_out (n := 13)) q)
      refine V.vret h hR dX1_gather_121 ?_
      exact ⟨rfl, f, g, v, ⟨hf, hg, hv⟩, rfl⟩
    | succ d ih =>
      intro n f g v u hnd hf hg hv
      have skip : (Bt M n && (decide (0 ≤ P 9 n) && decide (P 9 n < 4))) = false → (∀ k, k < 4 → f k = gsf P M (n + 1) k) ∧ (∀ k, k < 4 → g k = gcf P M (n + 1) k) ∧ v = gvr P M (n + 1) := by
        intro h0
        have h1 : ∀ k, k < 4 → (Bt M n && decide (P 9 n = nI k)) = false := by
          intro k hk
          cases hb : Bt M n
          · rfl
          · rw [hb, Bool.true_and] at h0
            rw [Bool.true_and]
            refine decide_eq_false fun e => ?_
            rw [e, decide_eq_true (nI_pos' (by omega)), decide_eq_true (show nI k < (4 : Int32) from show nI k < nI 4 from nI_lt hk (by decide))] at h0
            cases h0
        refine ⟨fun k hk => by rw [gsf_no (h1 k hk)]; exact hf k hk, fun k hk => by rw [gcf_no (h1 k hk)]; exact hg k hk, ?_⟩
        rw [gvr, h0, if_neg (by decide)]; exact hv
      have skipA : Bt M n = false → _ := fun hh => skip (by rw [hh]; rfl)
      have skipB : P 9 n < 0 → _ := fun hh => skip (by rw [decide_eq_false (lt_n hh), Bool.false_and, Bool.and_false])
      have skipC : (4 : Int32) ≤ P 9 n → _ := fun hh => skip (by rw [decide_eq_false (le_n hh), Bool.and_false, Bool.and_false])
      refine V.iload2 h 35 dX1_gather_34 rfl (V.bipush h 37 dX1_gather_35 rfl ic2_13 ?_)
      refine V.icmp_ge h 121 40 dX1_gather_37 rfl rfl (fun q => absurd q (lp_in (n := 13) (by omega))) (fun _ => ?_)
      refine V.aload0 h 41 dX1_gather_40 rfl (V.gX1 h 0 44 dX1_gather_41 rfl rfl k126 jto rfl (V.gX2N h 9 47 dX1_gather_44 rfl rfl k55 (hP _ _ _).po rfl (V.iload2 h 48 dX1_gather_47 rfl (V.ialdN h 49 dX1_gather_48 rfl (hP _ _ _).pa5 (by omega) (by decide) (V.istore3 h 50 dX1_gather_49 rfl rfl (V.iload1 h 51 dX1_gather_50 rfl (V.iload2 h 52 dX1_gather_51 rfl ?_)))))))
      refine V.ishr h 53 dX1_gather_52 rfl (V.iconst h 54 dX1_gather_53 rfl ic1_1 (V.iand h 55 dX1_gather_54 rfl ?_))
      rw [tst M (show n < 32 by omega)]
      refine V.bif_eq h 115 58 dX1_gather_55 rfl rfl (fun c55 => ?_) (fun c55 => ?_)
      · refine V.incN2 h 118 dX1_gather_115 rfl rfl (V.goto h 34 dX1_gather_118 rfl ?_)
        first
        | exact ih (n + 1) _ _ _ _ (by omega) (skipA c55).1 (skipA c55).2.1 (skipA c55).2.2
        | exact ih (n + 1) _ _ _ _ (by omega) (skipB c59).1 (skipB c59).2.1 (skipB c59).2.2
        | exact ih (n + 1) _ _ _ _ (by omega) (skipC c64).1 (skipC c64).2.1 (skipC c64).2.2
        | (refine ih (n + 1) _ _ _ _ (by omega) (fun k hk => ?_) (fun k hk => ?_) ?_
           · unfold upd
             by_cases hkt : k = t
             · rw [if_pos hkt, hkt, hf t ht]
               unfold gsf
               rw [sm_s, c55, et]; simp
             · rw [if_neg hkt, hf k hk]
               exact (gsf_no (by rw [et, decide_eq_false (fun q => hkt (nI_inj (by omega) (by omega) q).symm), Bool.and_false])).symm
           · unfold upd
             by_cases hkt : k = t
             · rw [if_pos hkt, hkt, hg t ht]
               unfold gcf
               rw [sm_s, c55, et]; simp
             · rw [if_neg hkt, hg k hk]
               exact (gcf_no (by rw [et, decide_eq_false (fun q => hkt (nI_inj (by omega) (by omega) q).symm), Bool.and_false])).symm
           · rw [gvr, c55, decide_eq_true (nlt c59), decide_eq_true (nle c64), hv]; rfl)
      · refine V.iload3 h 59 dX1_gather_58 rfl ?_
        refine V.if_lt h 115 62 dX1_gather_59 rfl rfl (fun c59 => ?_) (fun c59 => ?_)
        · refine V.incN2 h 118 dX1_gather_115 rfl rfl (V.goto h 34 dX1_gather_118 rfl ?_)
          first
          | exact ih (n + 1) _ _ _ _ (by omega) (skipA c55).1 (skipA c55).2.1 (skipA c55).2.2
          | exact ih (n + 1) _ _ _ _ (by omega) (skipB c59).1 (skipB c59).2.1 (skipB c59).2.2
          | exact ih (n + 1) _ _ _ _ (by omega) (skipC c64).1 (skipC c64).2.1 (skipC c64).2.2
          | (refine ih (n + 1) _ _ _ _ (by omega) (fun k hk => ?_) (fun k hk => ?_) ?_
             · unfold upd
               by_cases hkt : k = t
               · rw [if_pos hkt, hkt, hf t ht]
                 unfold gsf
                 rw [sm_s, c55, et]; simp
               · rw [if_neg hkt, hf k hk]
                 exact (gsf_no (by rw [et, decide_eq_false (fun q => hkt (nI_inj (by omega) (by omega) q).symm), Bool.and_false])).symm
             · unfold upd
               by_cases hkt : k = t
               · rw [if_pos hkt, hkt, hg t ht]
                 unfold gcf
                 rw [sm_s, c55, et]; simp
               · rw [if_neg hkt, hg k hk]
                 exact (gcf_no (by rw [et, decide_eq_false (fun q => hkt (nI_inj (by omega) (by omega) q).symm), Bool.and_false])).symm
             · rw [gvr, c55, decide_eq_true (nlt c59), decide_eq_true (nle c64), hv]; rfl)
        · refine V.iload3 h 63 dX1_gather_62 rfl (V.iconst h 64 dX1_gather_63 rfl ic1_4 ?_)
          refine V.icmp_ge h 115 67 dX1_gather_64 rfl rfl (fun c64 => ?_) (fun c64 => ?_)
          · refine V.incN2 h 118 dX1_gather_115 rfl rfl (V.goto h 34 dX1_gather_118 rfl ?_)
            first
            | exact ih (n + 1) _ _ _ _ (by omega) (skipA c55).1 (skipA c55).2.1 (skipA c55).2.2
            | exact ih (n + 1) _ _ _ _ (by omega) (skipB c59).1 (skipB c59).2.1 (skipB c59).2.2
            | exact ih (n + 1) _ _ _ _ (by omega) (skipC c64).1 (skipC c64).2.1 (skipC c64).2.2
            | (refine ih (n + 1) _ _ _ _ (by omega) (fun k hk => ?_) (fun k hk => ?_) ?_
               · unfold upd
                 by_cases hkt : k = t
                 · rw [if_pos hkt, hkt, hf t ht]
                   unfold gsf
                   rw [sm_s, c55, et]; simp
                 · rw [if_neg hkt, hf k hk]
                   exact (gsf_no (by rw [et, decide_eq_false (fun q => hkt (nI_inj (by omega) (by omega) q).symm), Bool.and_false])).symm
               · unfold upd
                 by_cases hkt : k = t
                 · rw [if_pos hkt, hkt, hg t ht]
                   unfold gcf
                   rw [sm_s, c55, et]; simp
                 · rw [if_neg hkt, hg k hk]
                   exact (gcf_no (by rw [et, decide_eq_false (fun q => hkt (nI_inj (by omega) (by omega) q).symm), Bool.and_false])).symm
               · rw [gvr, c55, decide_eq_true (nlt c59), decide_eq_true (nle c64), hv]; rfl)
          · obtain ⟨t, ht, et⟩ := nI_of_lt (n := 4) (by decide) c59 (nle c64)
            rw [et]
            refine V.aload0 h 68 dX1_gather_67 rfl (V.gX1 h 1 71 dX1_gather_68 rfl rfl k127 jto rfl (V.iload3 h 72 dX1_gather_71 rfl (V.dup2 h 73 dX1_gather_72 rfl rfl rfl (V.ialdN h 74 dX1_gather_73 rfl jta1 (by omega) (by decide) (V.aload0 h 75 dX1_gather_74 rfl (V.gX1 h 0 78 dX1_gather_75 rfl rfl k126 jto rfl (V.gX2N h 10 81 dX1_gather_78 rfl rfl k59 (hP _ _ _).po rfl ?_)))))))
            refine V.iload2 h 82 dX1_gather_81 rfl (V.ialdN h 83 dX1_gather_82 rfl (hP _ _ _).pa6 (by omega) (by decide) (V.iadd h 84 dX1_gather_83 rfl (V.iastN h 85 dX1_gather_84 rfl jta1 (by omega) (by decide) (V.at _ jtw1 (V.aload0 h 86 dX1_gather_85 rfl (V.gX1 h 2 89 dX1_gather_86 rfl rfl k128 jto rfl (V.iload3 h 90 dX1_gather_89 rfl ?_)))))))
            refine V.dup2 h 91 dX1_gather_90 rfl rfl rfl (V.ialdN h 92 dX1_gather_91 rfl jta2 (by omega) (by decide) (V.iconst h 93 dX1_gather_92 rfl ic1_1 (V.iadd h 94 dX1_gather_93 rfl (V.iastN h 95 dX1_gather_94 rfl jta2 (by omega) (by decide) (V.at _ jtw2 (V.aload0 h 96 dX1_gather_95 rfl (V.dup h 97 dX1_gather_96 rfl rfl ?_)))))))
            refine V.gX1 h 3 100 dX1_gather_97 rfl rfl k129 jto rfl (V.iconst h 101 dX1_gather_100 rfl ic1_1 (V.aload0 h 102 dX1_gather_101 rfl (V.gX1 h 0 105 dX1_gather_102 rfl rfl k126 jto rfl (V.gX2N h 8 108 dX1_gather_105 rfl rfl k51 (hP _ _ _).po rfl (V.iload2 h 109 dX1_gather_108 rfl (V.ialdN h 110 dX1_gather_109 rfl (hP _ _ _).pa4 (by omega) (by decide) (V.ishl h 111 dX1_gather_110 rfl ?_)))))))
            refine V.ior h 112 dX1_gather_111 rfl (V.sX1 h 3 115 dX1_gather_112 rfl rfl k129 rfl rfl rfl jto rfl (V.at _ jtp3 (V.incN2 h 118 dX1_gather_115 rfl rfl (V.goto h 34 dX1_gather_118 rfl ?_))))
            first
            | exact ih (n + 1) _ _ _ _ (by omega) (skipA c55).1 (skipA c55).2.1 (skipA c55).2.2
            | exact ih (n + 1) _ _ _ _ (by omega) (skipB c59).1 (skipB c59).2.1 (skipB c59).2.2
            | exact ih (n + 1) _ _ _ _ (by omega) (skipC c64).1 (skipC c64).2.1 (skipC c64).2.2
            | (refine ih (n + 1) _ _ _ _ (by omega) (fun k hk => ?_) (fun k hk => ?_) ?_
               · unfold upd
                 by_cases hkt : k = t
                 · rw [if_pos hkt, hkt, hf t ht]
                   unfold gsf
                   rw [sm_s, c55, et]; simp
                 · rw [if_neg hkt, hf k hk]
                   exact (gsf_no (by rw [et, decide_eq_false (fun q => hkt (nI_inj (by omega) (by omega) q).symm), Bool.and_false])).symm
               · unfold upd
                 by_cases hkt : k = t
                 · rw [if_pos hkt, hkt, hg t ht]
                   unfold gcf
                   rw [sm_s, c55, et]; simp
                 · rw [if_neg hkt, hg k hk]
                   exact (gcf_no (by rw [et, decide_eq_false (fun q => hkt (nI_inj (by omega) (by omega) q).symm), Bool.and_false])).symm
               · rw [gvr, c55, decide_eq_true (nlt c59), decide_eq_true (nle c64), hv]; rfl)
  have L1 : ∀ (d n : Nat) (f g : Nat → Int32), n + d = 4 → (∀ k, k < n → f k = 0) → (∀ k, k < n → g k = 0) → V X 0 0 2 [some (.ref j), some (.int M), some (.int (nI n)), none] [] (jt w p j f g v) := by
    intro d
    induction d with
    | zero =>
      intro n f g hnd hf hg
      obtain rfl : n = 4 := by omega
      refine V.iload2 h 3 dX1_gather_2 rfl (V.iconst h 4 dX1_gather_3 rfl ic1_4 ?_)
      refine V.icmp_ge h 27 7 dX1_gather_4 rfl rfl (fun _ => ?_) (fun q => absurd (lp_out (n := 4)) q)
      refine V.aload0 h 28 dX1_gather_27 rfl (V.iconst h 29 dX1_gather_28 rfl ic1_0 (V.sX1 h 3 32 dX1_gather_29 rfl rfl k129 rfl rfl rfl jto rfl (V.at _ jtp3 (V.iconst h 33 dX1_gather_32 rfl ic1_0 (V.istore2 h 34 dX1_gather_33 rfl rfl ?_)))))
      exact L2 13 0 f g 0 _ rfl (fun k hk => by rw [hf k hk]; rfl) (fun k hk => by rw [hg k hk]; rfl) rfl
    | succ d ih =>
      intro n f g hnd hf hg
      refine V.iload2 h 3 dX1_gather_2 rfl (V.iconst h 4 dX1_gather_3 rfl ic1_4 ?_)
      refine V.icmp_ge h 27 7 dX1_gather_4 rfl rfl (fun q => absurd q (lp_in (n := 4) (by omega))) (fun _ => ?_)
      refine V.aload0 h 8 dX1_gather_7 rfl (V.gX1 h 1 11 dX1_gather_8 rfl rfl k127 jto rfl (V.iload2 h 12 dX1_gather_11 rfl (V.iconst h 13 dX1_gather_12 rfl ic1_0 (V.iastN h 14 dX1_gather_13 rfl jta1 (by omega) (by decide) (V.at _ jtw1 (V.aload0 h 15 dX1_gather_14 rfl (V.gX1 h 2 18 dX1_gather_15 rfl rfl k128 jto rfl ?_)))))))
      refine V.iload2 h 19 dX1_gather_18 rfl (V.iconst h 20 dX1_gather_19 rfl ic1_0 (V.iastN h 21 dX1_gather_20 rfl jta2 (by omega) (by decide) (V.at _ jtw2 (V.incN2 h 24 dX1_gather_21 rfl rfl (V.goto h 2 dX1_gather_24 rfl ?_)))))
      refine ih (n + 1) _ _ (by omega) (fun k hk => ?_) (fun k hk => ?_)
      · unfold upd
        by_cases h : k = n
        · rw [if_pos h]
        · rw [if_neg h]; exact hf k (by omega)
      · unfold upd
        by_cases h : k = n
        · rw [if_pos h]
        · rw [if_neg h]; exact hg k (by omega)
  refine V.iconst h 1 dX1_gather_0 rfl ic1_0 (V.istore2 h 2 dX1_gather_1 rfl rfl ?_)
  exact L1 4 0 f g rfl (fun k h => absurd h (by omega)) (fun k h => absurd h (by omega))
