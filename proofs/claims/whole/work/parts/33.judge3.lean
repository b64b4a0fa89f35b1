/-! the class: waves -/
def JW (w : Wd) (p j : Nat) (u : Wd) : Prop := ∃ f g v, u = jt w p j f g v
theorem exC_lo {P : Pl} {S C : Int32} (h : lo12 S) : exC P (S ||| C) = exC P C := by
  unfold exC; rw [bt_or, h 12 (Nat.le_refl _), Bool.false_or]
theorem c_X1_failing {w : Wd} {p j : Nat} {P : Pl} {f g : Nat → Int32} {v S C : Int32} (hP0 : PlaceAt w p P) (hd : p + 10 ≤ j ∨ j + 3 ≤ p) (hS : lo12 S) (hW : WFm P (S ||| C)) (hc : ∀ k, k < 12 → Bt S k = true → cOKc P k) : K_X1_failing [.ref j, .int S, .int C] (jt w p j f g v) (RE (fal P (exC P C) S C) (JW w p j)) := by
  refine Con.mk [some (.ref j), some (.int S), some (.int C), none, none] (by decide) rfl rfl (Nat.le_of_ble_eq_true rfl) (fun X h hR hnm => ?_)
  have hP : ∀ f g v, PlaceAt (jt w p j f g v) p P := fun _ _ _ => jt_P hP0 hd
  have L : ∀ (d n : Nat) (t : Int32) (f g : Nat → Int32) (v : Int32), n + d = 12 → t = mk (fun k => Bt S k && !hld P (exC P C) k (S ||| C)) n → Gat P (S ||| C) f g v → V X 0 0 12 [some (.ref j), some (.int S), some (.int C), some (.int t), some (.int (nI n))] [] (jt w p j f g v) := by
    intro d
    induction d with
    | zero =>
      intro n t f g v hnd ht hG
      obtain rfl : n = 12 := by omega
      refine V.iload4 h 14 dX1_failing_12 rfl (V.bipush h 16 dX1_failing_14 rfl ic2_12 ?_)
      refine V.icmp_ge h 50 19 dX1_failing_16 rfl rfl (fun _ => ?_) (fun q => absurd (lp_out (n := 12)) q)
      refine V.iload3 h 51 dX1_failing_50 rfl ?_
      refine V.iret h hR dX1_failing_51 ?_
      exact ⟨by rw [ht]; rfl, f, g, v, rfl⟩
    | succ d ih =>
      intro n t f g v hnd ht hG
      refine V.iload4 h 14 dX1_failing_12 rfl (V.bipush h 16 dX1_failing_14 rfl ic2_12 ?_)
      refine V.icmp_ge h 50 19 dX1_failing_16 rfl rfl (fun q => absurd q (lp_in (n := 12) (by omega))) (fun _ => ?_)
      refine V.iload1 h 20 dX1_failing_19 rfl (V.iload4 h 22 dX1_failing_20 rfl (V.ishr h 23 dX1_failing_22 rfl (V.iconst h 24 dX1_failing_23 rfl ic1_1 (V.iand h 25 dX1_failing_24 rfl ?_))))
      rw [tst S (show n < 32 by omega)]
      refine V.bif_eq h 44 28 dX1_failing_25 rfl rfl (fun c25 => ?_) (fun c25 => ?_)
      · refine V.incN4 h 47 dX1_failing_44 rfl rfl (V.goto h 12 dX1_failing_47 rfl ?_)
        first | exact ih (n + 1) _ _ _ _ (by omega) (mkf ht (by rw [c25]; rfl)) hG | exact ih (n + 1) _ _ _ _ (by omega) (mkf ht (by rw [c25, ← exC_lo hS, c34]; rfl)) hG | exact ih (n + 1) _ _ _ _ (by omega) (mkt ht (by rw [c25, ← exC_lo hS, c34]; rfl)) hG
      · refine V.aload0 h 29 dX1_failing_28 rfl (V.iload4 h 31 dX1_failing_29 rfl (V.callVf (As := [.int _]) (st := []) h 34 dX1_failing_31 rfl k326 k323 k325 ks20 k3 hd_X1_holds ⟨(Nat.le_of_ble_eq_true rfl), (Nat.le_of_ble_eq_true rfl)⟩ (Nat.le_of_ble_eq_true rfl) jto rfl rfl ⟨Nat.zero_le _, Nat.zero_le _⟩ (c_X1_holds hP0 hd (k := n) (by omega) (by rw [bt_or, c25]; rfl) hW (hc n (by omega) c25) hG) rfl ?_))
        refine V.bif_ne h 44 37 dX1_failing_34 rfl rfl (fun c34 => ?_) (fun c34 => ?_)
        · refine V.incN4 h 47 dX1_failing_44 rfl rfl (V.goto h 12 dX1_failing_47 rfl ?_)
          first | exact ih (n + 1) _ _ _ _ (by omega) (mkf ht (by rw [c25]; rfl)) hG | exact ih (n + 1) _ _ _ _ (by omega) (mkf ht (by rw [c25, ← exC_lo hS, c34]; rfl)) hG | exact ih (n + 1) _ _ _ _ (by omega) (mkt ht (by rw [c25, ← exC_lo hS, c34]; rfl)) hG
        · refine V.iload3 h 38 dX1_failing_37 rfl (V.iconst h 39 dX1_failing_38 rfl ic1_1 (V.iload4 h 41 dX1_failing_39 rfl (V.ishl h 42 dX1_failing_41 rfl (V.ior h 43 dX1_failing_42 rfl (V.istore3 h 44 dX1_failing_43 rfl rfl (V.incN4 h 47 dX1_failing_44 rfl rfl (V.goto h 12 dX1_failing_47 rfl ?_)))))))
          first | exact ih (n + 1) _ _ _ _ (by omega) (mkf ht (by rw [c25]; rfl)) hG | exact ih (n + 1) _ _ _ _ (by omega) (mkf ht (by rw [c25, ← exC_lo hS, c34]; rfl)) hG | exact ih (n + 1) _ _ _ _ (by omega) (mkt ht (by rw [c25, ← exC_lo hS, c34]; rfl)) hG
  refine V.aload0 h 1 dX1_failing_0 rfl (V.iload1 h 2 dX1_failing_1 rfl (V.iload2 h 3 dX1_failing_2 rfl (V.ior h 4 dX1_failing_3 rfl (V.callVev (As := [.int _]) (st := []) h 7 dX1_failing_4 rfl k322 k319 k321 ks19 k3 hd_X1_gather ⟨(Nat.le_of_ble_eq_true rfl), (Nat.le_of_ble_eq_true rfl)⟩ (Nat.le_of_ble_eq_true rfl) jto rfl rfl ⟨Nat.zero_le _, Nat.zero_le _⟩ (c_X1_gather hP0 hd) rfl (fun w4 hw4 => ?_)))))
  obtain ⟨f1, g1, v1, hG, rfl⟩ := hw4
  refine V.iconst h 8 dX1_failing_7 rfl ic1_0 (V.istore3 h 9 dX1_failing_8 rfl rfl (V.iconst h 10 dX1_failing_9 rfl ic1_0 (V.istore4 h 12 dX1_failing_10 rfl rfl ?_)))
  exact L 12 0 0 _ _ _ rfl rfl hG
theorem WFm_sub {P : Pl} {S S' : Int32} (h : ∀ k, Bt S' k = true → Bt S k = true) (hW : WFm P S) : WFm P S' := fun k hk hb => hW k hk (h k hb)
theorem gs_or {P : Pl} {x : Ex} {S C : Int32} (n : Nat) (k : Nat) (h : Bt (gs P x C n S ||| C) k = true) : Bt (S ||| C) k = true := by
  rw [bt_or, Bool.or_eq_true] at *
  exact h.imp (gs_sub n) id
theorem c_X1_greatest {w : Wd} {p j : Nat} {P : Pl} {f g : Nat → Int32} {v S C : Int32} (hP0 : PlaceAt w p P) (hd : p + 10 ≤ j ∨ j + 3 ≤ p) (hS : lo12 S) (hW : WFm P (S ||| C)) (hc : ∀ k, k < 12 → Bt S k = true → cOKc P k) : K_X1_greatest [.ref j, .int S, .int C] (jt w p j f g v) (RE (grt P (exC P C) S C) (JW w p j)) := by
  refine Con.mk [some (.ref j), some (.int S), some (.int C), none, none, none] (by decide) rfl rfl (Nat.le_of_ble_eq_true rfl) (fun X h hR hnm => ?_)
  have hP : ∀ f g v, PlaceAt (jt w p j f g v) p P := fun _ _ _ => jt_P hP0 hd
  have L : ∀ (d n : Nat) (u : Option Value) (f g : Nat → Int32) (v : Int32), n + d = 12 → V X 0 0 5 [some (.ref j), some (.int S), some (.int C), some (.int (gs P (exC P C) C n S)), some (.int (nI (n + 1))), u] [] (jt w p j f g v) := by
    intro d
    induction d with
    | zero =>
      intro n u f g v hnd
      obtain rfl : n = 12 := by omega
      refine V.iload4 h 7 dX1_greatest_5 rfl (V.bipush h 9 dX1_greatest_7 rfl ic2_12 ?_)
      refine V.icmp_gt h 41 12 dX1_greatest_9 rfl rfl (fun _ => ?_) (fun q => absurd (show (12 : Int32) < nI 13 from by decide) q)
      refine V.iload3 h 42 dX1_greatest_41 rfl ?_
      refine V.iret h hR dX1_greatest_42 ?_
      exact ⟨rfl, f, g, v, rfl⟩
    | succ d ih =>
      intro n u f g v hnd
      refine V.iload4 h 7 dX1_greatest_5 rfl (V.bipush h 9 dX1_greatest_7 rfl ic2_12 ?_)
      refine V.icmp_gt h 41 12 dX1_greatest_9 rfl rfl (fun q => absurd q (le_n (show nI (n + 1) ≤ nI 12 from nI_le (by omega) (by decide)))) (fun _ => ?_)
      refine V.aload0 h 13 dX1_greatest_12 rfl (V.iload3 h 14 dX1_greatest_13 rfl (V.iload2 h 15 dX1_greatest_14 rfl (V.callVe (As := [.int _, .int _]) (st := []) h 18 dX1_greatest_15 rfl k318 k315 k317 ks18 k3 hd_X1_failing ⟨(Nat.le_of_ble_eq_true rfl), (Nat.le_of_ble_eq_true rfl)⟩ (Nat.le_of_ble_eq_true rfl) jto rfl rfl ⟨Nat.zero_le _, Nat.zero_le _⟩ (c_X1_failing hP0 hd (gs_lo hS n) (WFm_sub (gs_or n) hW) (fun k hk hb => hc k hk (gs_sub n hb))) rfl (fun w15 hw15 => ?_))))
      obtain ⟨f1, g1, v1, rfl⟩ := hw15
      refine V.istore5 h 20 dX1_greatest_18 rfl rfl (V.iload5 h 22 dX1_greatest_20 rfl ?_)
      refine V.if_ne h 28 25 dX1_greatest_22 rfl rfl (fun c22 => ?_) (fun c22 => ?_)
      · refine V.iload3 h 29 dX1_greatest_28 rfl (V.iload5 h 31 dX1_greatest_29 rfl (V.iconst h 32 dX1_greatest_31 rfl ic1_m1 (V.ixor h 33 dX1_greatest_32 rfl (V.iand h 34 dX1_greatest_33 rfl (V.istore3 h 35 dX1_greatest_34 rfl rfl (V.incN4 h 38 dX1_greatest_35 rfl rfl (V.goto h 5 dX1_greatest_38 rfl ?_)))))))
        exact ih (n + 1) _ _ _ _ (by omega)
      · refine V.goto h 41 dX1_greatest_25 rfl (V.iload3 h 42 dX1_greatest_41 rfl ?_)
        refine V.iret h hR dX1_greatest_42 ?_
        exact ⟨by rw [gs_grt c22 (by omega)], f1, g1, v1, rfl⟩
  refine V.iload1 h 1 dX1_greatest_0 rfl (V.istore3 h 2 dX1_greatest_1 rfl rfl (V.iconst h 3 dX1_greatest_2 rfl ic1_1 (V.istore4 h 5 dX1_greatest_3 rfl rfl ?_)))
  exact L 12 0 none f g v rfl
