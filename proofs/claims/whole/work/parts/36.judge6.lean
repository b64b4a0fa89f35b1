/-! the class: what a project reaches -/
theorem std_0 (P : Pl) (x : Ex) : std P x 0 = grt P x (P 6 0) (P 7 0) ||| P 7 0 := by unfold std; rw [and_not0]
theorem c_X1_hasGoal {w : Wd} {p j q0 : Nat} {P : Pl} {f g : Nat → Int32} {v : Int32} (hP0 : PlaceAt w p P) (hd : p + 10 ≤ j ∨ j + 3 ≤ p) (hO : POK P) (hq : q0 < 4) : K_X1_hasGoal [.ref j, .int (nI q0)] (jt w p j f g v) (RE (bI (hasG P noX (std P noX 0) (nI q0))) (JW w p j)) := by
  refine Con.mk [some (.ref j), some (.int (nI q0))] (by decide) rfl rfl (Nat.le_of_ble_eq_true rfl) (fun X h hR hnm => ?_)
  have hP : ∀ f g v, PlaceAt (jt w p j f g v) p P := fun _ _ _ => jt_P hP0 hd
  refine V.aload0 h 1 dX1_hasGoal_0 rfl (V.iload1 h 2 dX1_hasGoal_1 rfl (V.aload0 h 3 dX1_hasGoal_2 rfl (V.gX1 h 0 6 dX1_hasGoal_3 rfl rfl k126 jto rfl (V.gX2N h 6 9 dX1_hasGoal_6 rfl rfl k44 (hP _ _ _).po rfl (V.aload0 h 10 dX1_hasGoal_9 rfl (V.gX1 h 0 13 dX1_hasGoal_10 rfl rfl k126 jto rfl (V.gX2N h 7 16 dX1_hasGoal_13 rfl rfl k48 (hP _ _ _).po rfl ?_)))))))
  refine V.callVe (As := [.int _, .int _, .int _]) (st := []) h 19 dX1_hasGoal_16 rfl k384 k381 k383 ks30 k3 hd_X1_reaches ⟨(Nat.le_of_ble_eq_true rfl), (Nat.le_of_ble_eq_true rfl)⟩ (Nat.le_of_ble_eq_true rfl) jto rfl rfl ⟨Nat.zero_le _, Nat.zero_le _⟩ (c_X1_reaches hP0 hd hO (sb_op P) (sb_ca P) hq) rfl (fun w16 hw16 => ?_)
  obtain ⟨f1, g1, v1, rfl⟩ := hw16
  refine V.zret h hR (by first | exact bI_z _ | rfl) dX1_hasGoal_19 ?_
  exact ⟨by rw [std_0], f1, g1, v1, rfl⟩
theorem ofI1 : Int32.ofInt 1 = (1 : Int32) := by decide
def qPwg (P : Pl) : Int32 := sm (fun k => if (hpj P (nI k) && hasG P noX (std P noX 0) (nI k)) = true then 1 else 0) 4
theorem c_X1_projectsWithGoal {w : Wd} {p j : Nat} {P : Pl} {f g : Nat → Int32} {v : Int32} (hP0 : PlaceAt w p P) (hd : p + 10 ≤ j ∨ j + 3 ≤ p) (hO : POK P) : K_X1_projectsWithGoal [.ref j] (jt w p j f g v) (RE (qPwg P) (JW w p j)) := by
  refine Con.mk [some (.ref j), none, none] (by decide) rfl rfl (Nat.le_of_ble_eq_true rfl) (fun X h hR hnm => ?_)
  have hP : ∀ f g v, PlaceAt (jt w p j f g v) p P := fun _ _ _ => jt_P hP0 hd
  have eF : ∀ {n : Nat} {t : Int32}, hpj P (nI n) = true → hasG P noX (std P noX 0) (nI n) = false → t = sm (fun k => if (hpj P (nI k) && hasG P noX (std P noX 0) (nI k)) = true then 1 else 0) n → t = sm (fun k => if (hpj P (nI k) && hasG P noX (std P noX 0) (nI k)) = true then 1 else 0) (n + 1) := by
    intro n t h1 h2 ht
    rw [sm_s, h1, h2, Bool.true_and, if_neg Bool.false_ne_true, Int32.add_zero]; exact ht
  have eT : ∀ {n : Nat} {t : Int32}, hpj P (nI n) = true → hasG P noX (std P noX 0) (nI n) = true → t = sm (fun k => if (hpj P (nI k) && hasG P noX (std P noX 0) (nI k)) = true then 1 else 0) n → t + Int32.ofInt 1 = sm (fun k => if (hpj P (nI k) && hasG P noX (std P noX 0) (nI k)) = true then 1 else 0) (n + 1) := by
    intro n t h1 h2 ht
    rw [sm_s, h1, h2, Bool.true_and, if_pos rfl, ht, ofI1]
  have L : ∀ (d n : Nat) (t : Int32) (f g : Nat → Int32) (v : Int32), n + d = 4 → t = sm (fun k => if (hpj P (nI k) && hasG P noX (std P noX 0) (nI k)) = true then 1 else 0) n → V X 0 0 4 [some (.ref j), some (.int t), some (.int (nI n))] [] (jt w p j f g v) := by
    intro d
    induction d with
    | zero =>
      intro n t f g v hnd ht
      obtain rfl : n = 4 := by omega
      refine V.iload2 h 5 dX1_projectsWithGoal_4 rfl (V.iconst h 6 dX1_projectsWithGoal_5 rfl ic1_4 ?_)
      refine V.icmp_ge h 37 9 dX1_projectsWithGoal_6 rfl rfl (fun _ => ?_) (fun q => absurd (lp_out (n := 4)) q)
      refine V.iload1 h 38 dX1_projectsWithGoal_37 rfl ?_
      refine V.iret h hR dX1_projectsWithGoal_38 ?_
      exact ⟨by rw [ht]; rfl, f, g, v, rfl⟩
    | succ d ih =>
      intro n t f g v hnd ht
      refine V.iload2 h 5 dX1_projectsWithGoal_4 rfl (V.iconst h 6 dX1_projectsWithGoal_5 rfl ic1_4 ?_)
      refine V.icmp_ge h 37 9 dX1_projectsWithGoal_6 rfl rfl (fun q => absurd q (lp_in (n := 4) (by omega))) (fun _ => ?_)
      refine V.aload0 h 10 dX1_projectsWithGoal_9 rfl (V.gX1 h 0 13 dX1_projectsWithGoal_10 rfl rfl k126 jto rfl (V.iload2 h 14 dX1_projectsWithGoal_13 rfl (V.callNf (As := [.int _]) (st := []) h 17 dX1_projectsWithGoal_14 rfl k273 k471 k272 ks8 k2 hd_X2_hasProject ⟨(Nat.le_of_ble_eq_true rfl), (Nat.le_of_ble_eq_true rfl)⟩ (Nat.le_of_ble_eq_true rfl) (hP _ _ _).po rfl rfl ⟨Nat.zero_le _, Nat.zero_le _⟩ (c_X2_hasProject (hP _ _ _)) rfl ?_)))
      refine V.bif_eq h 31 20 dX1_projectsWithGoal_17 rfl rfl (fun c17 => ?_) (fun c17 => ?_)
      · refine V.incN2 h 34 dX1_projectsWithGoal_31 rfl rfl (V.goto h 4 dX1_projectsWithGoal_34 rfl ?_)
        first
        | exact ih (n + 1) _ _ _ _ (by omega) (by rw [sm_s, c17, Bool.false_and, if_neg Bool.false_ne_true, Int32.add_zero]; exact ht)
        | exact ih (n + 1) _ _ _ _ (by omega) (eF c17 (show hasG P noX (std P noX 0) (nI n) = false by assumption) ht)
        | exact ih (n + 1) _ _ _ _ (by omega) (eT c17 (show hasG P noX (std P noX 0) (nI n) = true by assumption) ht)
      · refine V.aload0 h 21 dX1_projectsWithGoal_20 rfl (V.iload2 h 22 dX1_projectsWithGoal_21 rfl (V.callVe (As := [.int _]) (st := []) h 25 dX1_projectsWithGoal_22 rfl k380 k405 k379 ks29 k3 hd_X1_hasGoal ⟨(Nat.le_of_ble_eq_true rfl), (Nat.le_of_ble_eq_true rfl)⟩ (Nat.le_of_ble_eq_true rfl) jto rfl rfl ⟨Nat.zero_le _, Nat.zero_le _⟩ (c_X1_hasGoal hP0 hd hO (by omega)) rfl (fun w22 hw22 => ?_)))
        obtain ⟨f1, g1, v1, rfl⟩ := hw22
        refine V.bif_eq h 31 28 dX1_projectsWithGoal_25 rfl rfl (fun c25 => ?_) (fun c25 => ?_)
        · refine V.incN2 h 34 dX1_projectsWithGoal_31 rfl rfl (V.goto h 4 dX1_projectsWithGoal_34 rfl ?_)
          first
          | exact ih (n + 1) _ _ _ _ (by omega) (by rw [sm_s, c17, Bool.false_and, if_neg Bool.false_ne_true, Int32.add_zero]; exact ht)
          | exact ih (n + 1) _ _ _ _ (by omega) (eF c17 (show hasG P noX (std P noX 0) (nI n) = false by assumption) ht)
          | exact ih (n + 1) _ _ _ _ (by omega) (eT c17 (show hasG P noX (std P noX 0) (nI n) = true by assumption) ht)
        · refine V.iinc1 h 31 dX1_projectsWithGoal_28 rfl rfl rfl (V.incN2 h 34 dX1_projectsWithGoal_31 rfl rfl (V.goto h 4 dX1_projectsWithGoal_34 rfl ?_))
          first
          | exact ih (n + 1) _ _ _ _ (by omega) (by rw [sm_s, c17, Bool.false_and, if_neg Bool.false_ne_true, Int32.add_zero]; exact ht)
          | exact ih (n + 1) _ _ _ _ (by omega) (eF c17 (show hasG P noX (std P noX 0) (nI n) = false by assumption) ht)
          | exact ih (n + 1) _ _ _ _ (by omega) (eT c17 (show hasG P noX (std P noX 0) (nI n) = true by assumption) ht)
  refine V.iconst h 1 dX1_projectsWithGoal_0 rfl ic1_0 (V.istore1 h 2 dX1_projectsWithGoal_1 rfl rfl (V.iconst h 3 dX1_projectsWithGoal_2 rfl ic1_0 (V.istore2 h 4 dX1_projectsWithGoal_3 rfl rfl ?_)))
  exact L 4 0 0 f g v rfl rfl
