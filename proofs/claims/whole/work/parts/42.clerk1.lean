/-! the class: the clerk -/
def CK (w : Wd) (c p j : Nat) : Prop := w.2 c = some (.inr (0, [.ref p, .ref j])) ∧ (c < p ∨ p + 10 ≤ c) ∧ (c < j ∨ j + 3 ≤ c) ∧ (p + 10 ≤ j ∨ j + 3 ≤ p)
section CT
variable {w : Wd} {c p j : Nat} {P : Pl} {f g : Nat → Int32} {v : Int32}
theorem cto (h : CK w c p j) : (ct w p j P f g v).2 c = some (.inr (0, [.ref p, .ref j])) := by
  show (rs (rs w p 10 _) j 3 _).2 c = _
  rw [rs_out h.2.2.1, rs_out h.2.1]
  exact h.1
theorem ctp0 (h : CK w c p j) {x : Int32} : wset (ct w p j P f g v) p (.inr (2, (pfl p P).set 0 (.int x))) = ct w p j (us P 0 x) f g v := by
  rw [ct_eq h.2.2.2, ct_eq h.2.2.2]
  exact pp0
theorem ctp2 (h : CK w c p j) {x : Int32} : wset (ct w p j P f g v) p (.inr (2, (pfl p P).set 2 (.int x))) = ct w p j (us P 2 x) f g v := by
  rw [ct_eq h.2.2.2, ct_eq h.2.2.2]
  exact pp2
theorem ctp3 (h : CK w c p j) {x : Int32} : wset (ct w p j P f g v) p (.inr (2, (pfl p P).set 3 (.int x))) = ct w p j (us P 3 x) f g v := by
  rw [ct_eq h.2.2.2, ct_eq h.2.2.2]
  exact pp3
theorem ctp6 (h : CK w c p j) {x : Int32} : wset (ct w p j P f g v) p (.inr (2, (pfl p P).set 6 (.int x))) = ct w p j (us P 6 x) f g v := by
  rw [ct_eq h.2.2.2, ct_eq h.2.2.2]
  exact pp6
theorem ctp7 (h : CK w c p j) {x : Int32} : wset (ct w p j P f g v) p (.inr (2, (pfl p P).set 7 (.int x))) = ct w p j (us P 7 x) f g v := by
  rw [ct_eq h.2.2.2, ct_eq h.2.2.2]
  exact pp7
theorem ctp14 (h : CK w c p j) {x : Int32} : wset (ct w p j P f g v) p (.inr (2, (pfl p P).set 14 (.int x))) = ct w p j (us P 14 x) f g v := by
  rw [ct_eq h.2.2.2, ct_eq h.2.2.2]
  exact pp14
theorem ctp15 (h : CK w c p j) {x : Int32} : wset (ct w p j P f g v) p (.inr (2, (pfl p P).set 15 (.int x))) = ct w p j (us P 15 x) f g v := by
  rw [ct_eq h.2.2.2, ct_eq h.2.2.2]
  exact pp15
theorem ctp16 (h : CK w c p j) {x : Int32} : wset (ct w p j P f g v) p (.inr (2, (pfl p P).set 16 (.int x))) = ct w p j (us P 16 x) f g v := by
  rw [ct_eq h.2.2.2, ct_eq h.2.2.2]
  exact pp16
theorem ctw1 (h : CK w c p j) {x : Nat → Int32} : wset (ct w p j P f g v) (p + 1) (ints 4 x) = ct w p j (ua P 1 x) f g v := by
  rw [ct_eq h.2.2.2, ct_eq h.2.2.2]
  exact pw1
theorem ctw2 (h : CK w c p j) {x : Nat → Int32} : wset (ct w p j P f g v) (p + 2) (ints 8 x) = ct w p j (ua P 4 x) f g v := by
  rw [ct_eq h.2.2.2, ct_eq h.2.2.2]
  exact pw2
theorem ctw3 (h : CK w c p j) {x : Nat → Int32} : wset (ct w p j P f g v) (p + 3) (ints 8 x) = ct w p j (ua P 5 x) f g v := by
  rw [ct_eq h.2.2.2, ct_eq h.2.2.2]
  exact pw3
theorem ctw4 (h : CK w c p j) {x : Nat → Int32} : wset (ct w p j P f g v) (p + 4) (ints 13 x) = ct w p j (ua P 8 x) f g v := by
  rw [ct_eq h.2.2.2, ct_eq h.2.2.2]
  exact pw4
theorem ctw5 (h : CK w c p j) {x : Nat → Int32} : wset (ct w p j P f g v) (p + 5) (ints 13 x) = ct w p j (ua P 9 x) f g v := by
  rw [ct_eq h.2.2.2, ct_eq h.2.2.2]
  exact pw5
theorem ctw6 (h : CK w c p j) {x : Nat → Int32} : wset (ct w p j P f g v) (p + 6) (ints 13 x) = ct w p j (ua P 10 x) f g v := by
  rw [ct_eq h.2.2.2, ct_eq h.2.2.2]
  exact pw6
theorem ctw7 (h : CK w c p j) {x : Nat → Int32} : wset (ct w p j P f g v) (p + 7) (ints 13 x) = ct w p j (ua P 11 x) f g v := by
  rw [ct_eq h.2.2.2, ct_eq h.2.2.2]
  exact pw7
theorem ctw8 (h : CK w c p j) {x : Nat → Int32} : wset (ct w p j P f g v) (p + 8) (ints 13 x) = ct w p j (ua P 12 x) f g v := by
  rw [ct_eq h.2.2.2, ct_eq h.2.2.2]
  exact pw8
theorem ctw9 (h : CK w c p j) {x : Nat → Int32} : wset (ct w p j P f g v) (p + 9) (ints 13 x) = ct w p j (ua P 13 x) f g v := by
  rw [ct_eq h.2.2.2, ct_eq h.2.2.2]
  exact pw9
end CT
def RJ (q : Int32 × Pl) (w : Wd) (p j : Nat) : Option Value → Wd → Prop := RE q.1 (fun u => ∃ f g v, u = ct w p j q.2 f g v)
theorem RJ_of {q : Int32 × Pl} {r : Int32} {P1 : Pl} {w : Wd} {p j : Nat} {f g : Nat → Int32} {v : Int32} (h : q = (r, P1)) : RJ q w p j (some (.int r)) (ct w p j P1 f g v) := by rw [h]; exact ⟨rfl, f, g, v, rfl⟩
def cAdd (P : Pl) (g : Int32) : Int32 × Pl :=
  if rng 1 g 999 = true then (if (4 : Int32) ≤ P 0 0 then (-3, P) else (P 0 0, us (ua P 1 (upd (P 1) (P 0 0).toNatClampNeg g)) 0 (P 0 0 + 1))) else (-1, P)
def cCome (P : Pl) (g : Int32) : Int32 × Pl :=
  if rng 0 g 999 = true then (if (8 : Int32) ≤ P 3 0 then (-3, P) else (P 3 0, us (ua P 4 (upd (P 4) (P 3 0).toNatClampNeg g)) 3 (P 3 0 + 1))) else (-1, P)
theorem rng_t {l x m : Int32} (h1 : ¬ x < l) (h2 : x ≤ m) : rng l x m = true := by unfold rng; rw [decide_eq_true (nlt h1), decide_eq_true h2]; rfl
theorem rng_f1 {l x m : Int32} (h1 : x < l) : rng l x m = false := by unfold rng; rw [decide_eq_false (lt_n h1)]; rfl
theorem rng_f2 {l x m : Int32} (h2 : ¬ x ≤ m) : rng l x m = false := by unfold rng; rw [decide_eq_false h2, Bool.and_false]
theorem c_X0_addProject {w : Wd} {c p j np : Nat} {P : Pl} {f g : Nat → Int32} {v x : Int32} (hc : CK w c p j) (hn : P 0 0 = nI np) (h4 : np ≤ 4) : K_X0_addProject [.ref c, .int x] (ct w p j P f g v) (RJ (cAdd P x) w p j) := by
  refine Con.mk [some (.ref c), some (.int x), none] (by decide) rfl rfl (Nat.le_of_ble_eq_true rfl) (fun X h hR hnm => ?_)
  refine V.iload1 h 1 dX0_addProject_0 rfl (V.iconst h 2 dX0_addProject_1 rfl ic1_1 ?_)
  refine V.icmp_lt h 12 5 dX0_addProject_2 rfl rfl (fun c2 => ?_) (fun c2 => ?_)
  · refine V.iconst h 13 dX0_addProject_12 rfl ic1_m1 ?_
    refine V.iret h hR dX0_addProject_13 ?_
    first | exact RJ_of (by unfold cAdd; rw [rng_f1 c2]; rfl) | exact RJ_of (by unfold cAdd; rw [rng_f2 c9]; rfl)
  · refine V.iload1 h 6 dX0_addProject_5 rfl (V.sipush h 9 dX0_addProject_6 rfl ic3_999 ?_)
    refine V.icmp_le h 14 12 dX0_addProject_9 rfl rfl (fun c9 => ?_) (fun c9 => ?_)
    · refine V.aload0 h 15 dX0_addProject_14 rfl (V.gX0 h 0 18 dX0_addProject_15 rfl rfl k145 (cto hc) rfl (V.gX2N h 0 21 dX0_addProject_18 rfl rfl k24 (ctP hc.2.2.2).po rfl (V.istore2 h 22 dX0_addProject_21 rfl rfl (V.iload2 h 23 dX0_addProject_22 rfl (V.iconst h 24 dX0_addProject_23 rfl ic1_4 ?_)))))
      refine V.icmp_lt h 30 27 dX0_addProject_24 rfl rfl (fun c24 => ?_) (fun c24 => ?_)
      · have hlt : np < 4 := by
          apply Classical.byContradiction
          intro q
          exact q ((nI_ltI (by omega) (by decide)).mp (show nI np < nI 4 by rw [← hn]; exact nle (show ¬ (4 : Int32) ≤ P 0 0 from lt_n c24)))
        refine V.aload0 h 31 dX0_addProject_30 rfl (V.gX0 h 0 34 dX0_addProject_31 rfl rfl k145 (cto hc) rfl (V.gX2N h 1 37 dX0_addProject_34 rfl rfl k27 (ctP hc.2.2.2).po rfl (V.iload2 h 38 dX0_addProject_37 rfl ?_)))
        rw [hn]
        refine V.iload1 h 39 dX0_addProject_38 rfl (V.iastN h 40 dX0_addProject_39 rfl (ctP hc.2.2.2).pa1 (by omega) (by decide) (V.at _ (ctw1 hc) (V.aload0 h 41 dX0_addProject_40 rfl (V.gX0 h 0 44 dX0_addProject_41 rfl rfl k145 (cto hc) rfl (V.iload2 h 45 dX0_addProject_44 rfl (V.iconst h 46 dX0_addProject_45 rfl ic1_1 (V.iadd h 47 dX0_addProject_46 rfl ?_)))))))
        refine V.sX2N h 0 50 dX0_addProject_47 rfl rfl k24 rfl rfl rfl (ctP hc.2.2.2).po rfl (V.at _ (ctp0 hc) (V.iload2 h 51 dX0_addProject_50 rfl ?_))
        refine V.iret h hR dX0_addProject_51 ?_
        exact RJ_of (by unfold cAdd; rw [rng_t c2 c9, if_pos rfl, if_neg (lt_n c24), hn, nI_tn (by omega)])
      · refine V.bipush h 29 dX0_addProject_27 rfl ic2_m3 ?_
        refine V.iret h hR dX0_addProject_29 ?_
        exact RJ_of (by unfold cAdd; rw [rng_t c2 c9, if_pos rfl, if_pos (nlt c24)])
    · refine V.iconst h 13 dX0_addProject_12 rfl ic1_m1 ?_
      refine V.iret h hR dX0_addProject_13 ?_
      first | exact RJ_of (by unfold cAdd; rw [rng_f1 c2]; rfl) | exact RJ_of (by unfold cAdd; rw [rng_f2 c9]; rfl)
theorem c_X0_addPerson {w : Wd} {c p j nq : Nat} {P : Pl} {f g : Nat → Int32} {v x : Int32} (hc : CK w c p j) (hn : P 3 0 = nI nq) (h8 : nq ≤ 8) : K_X0_addPerson [.ref c, .int x] (ct w p j P f g v) (RJ (cCome P x) w p j) := by
  refine Con.mk [some (.ref c), some (.int x), none] (by decide) rfl rfl (Nat.le_of_ble_eq_true rfl) (fun X h hR hnm => ?_)
  refine V.iload1 h 1 dX0_addPerson_0 rfl ?_
  refine V.if_lt h 11 4 dX0_addPerson_1 rfl rfl (fun c1 => ?_) (fun c1 => ?_)
  · refine V.iconst h 12 dX0_addPerson_11 rfl ic1_m1 ?_
    refine V.iret h hR dX0_addPerson_12 ?_
    first | exact RJ_of (by unfold cCome; rw [rng_f1 c1]; rfl) | exact RJ_of (by unfold cCome; rw [rng_f2 c8]; rfl)
  · refine V.iload1 h 5 dX0_addPerson_4 rfl (V.sipush h 8 dX0_addPerson_5 rfl ic3_999 ?_)
    refine V.icmp_le h 13 11 dX0_addPerson_8 rfl rfl (fun c8 => ?_) (fun c8 => ?_)
    · refine V.aload0 h 14 dX0_addPerson_13 rfl (V.gX0 h 0 17 dX0_addPerson_14 rfl rfl k145 (cto hc) rfl (V.gX2N h 3 20 dX0_addPerson_17 rfl rfl k34 (ctP hc.2.2.2).po rfl (V.istore2 h 21 dX0_addPerson_20 rfl rfl (V.iload2 h 22 dX0_addPerson_21 rfl (V.bipush h 24 dX0_addPerson_22 rfl ic2_8 ?_)))))
      refine V.icmp_lt h 30 27 dX0_addPerson_24 rfl rfl (fun c24 => ?_) (fun c24 => ?_)
      · have hlt : nq < 8 := by
          apply Classical.byContradiction
          intro q
          exact q ((nI_ltI (by omega) (by decide)).mp (show nI nq < nI 8 by rw [← hn]; exact nle (show ¬ (8 : Int32) ≤ P 3 0 from lt_n c24)))
        refine V.aload0 h 31 dX0_addPerson_30 rfl (V.gX0 h 0 34 dX0_addPerson_31 rfl rfl k145 (cto hc) rfl (V.gX2N h 4 37 dX0_addPerson_34 rfl rfl k37 (ctP hc.2.2.2).po rfl (V.iload2 h 38 dX0_addPerson_37 rfl ?_)))
        rw [hn]
        refine V.iload1 h 39 dX0_addPerson_38 rfl (V.iastN h 40 dX0_addPerson_39 rfl (ctP hc.2.2.2).pa2 (by omega) (by decide) (V.at _ (ctw2 hc) (V.aload0 h 41 dX0_addPerson_40 rfl (V.gX0 h 0 44 dX0_addPerson_41 rfl rfl k145 (cto hc) rfl (V.iload2 h 45 dX0_addPerson_44 rfl (V.iconst h 46 dX0_addPerson_45 rfl ic1_1 (V.iadd h 47 dX0_addPerson_46 rfl ?_)))))))
        refine V.sX2N h 3 50 dX0_addPerson_47 rfl rfl k34 rfl rfl rfl (ctP hc.2.2.2).po rfl (V.at _ (ctp3 hc) (V.iload2 h 51 dX0_addPerson_50 rfl ?_))
        refine V.iret h hR dX0_addPerson_51 ?_
        exact RJ_of (by unfold cCome; rw [rng_t c1 c8, if_pos rfl, if_neg (lt_n c24), hn, nI_tn (by omega)])
      · refine V.bipush h 29 dX0_addPerson_27 rfl ic2_m3 ?_
        refine V.iret h hR dX0_addPerson_29 ?_
        exact RJ_of (by unfold cCome; rw [rng_t c1 c8, if_pos rfl, if_pos (nlt c24)])
    · refine V.iconst h 12 dX0_addPerson_11 rfl ic1_m1 ?_
      refine V.iret h hR dX0_addPerson_12 ?_
      first | exact RJ_of (by unfold cCome; rw [rng_f1 c1]; rfl) | exact RJ_of (by unfold cCome; rw [rng_f2 c8]; rfl)
theorem hlt_rng {n : Nat} {x m : Int32} (hn : m = nI n) (h4 : n < 100) : (decide (0 ≤ x) && decide (x < m)) = rng 0 x (m - 1) := by
  subst hn
  apply Bool.eq_iff_iff.mpr
  constructor
  · intro h
    rw [Bool.and_eq_true] at h
    obtain ⟨k, hk, rfl⟩ := nI_of_lt (n := n) (by omega) (le_n (of_decide_eq_true h.1)) (of_decide_eq_true h.2)
    exact rng_predof (by omega) hk
  · intro h
    obtain ⟨k, hk, rfl⟩ := rng_pred (by omega) h
    rw [decide_eq_true (nI_pos' (by omega)), decide_eq_true (nI_lt hk (by omega))]; rfl
theorem hpj_rng {P : Pl} {np : Nat} {x : Int32} (hn : P 0 0 = nI np) (h4 : np < 100) : hpj P x = rng 0 x (P 0 0 - 1) := hlt_rng hn h4
theorem hpe_rng {P : Pl} {nq : Nat} {x : Int32} (hn : P 3 0 = nI nq) (h8 : nq < 100) : hpe P x = rng 0 x (P 3 0 - 1) := hlt_rng hn h8
theorem lt12 {x : Int32} (h : x < 12) : x ≤ 11 := by
  by_cases h0 : x < 0
  · exact Int32.le_trans (Int32.le_of_lt h0) (by decide)
  · obtain ⟨k, hk, rfl⟩ := nI_of_lt (n := 12) (by decide) h0 h
    exact show nI k ≤ nI 11 from nI_le (by omega) (by decide)
theorem lt12n {x : Int32} (h : x ≤ 11) : ¬ (12 : Int32) ≤ x := fun q => absurd (Int32.le_trans q h) (by decide)
theorem c_X0_isCondition {w : Wd} {c p j np nq : Nat} {P : Pl} {f g : Nat → Int32} {v i t k x : Int32} (hc : CK w c p j) (hn : P 0 0 = nI np) (h4 : np ≤ 4) (hq : P 3 0 = nI nq) (h8 : nq ≤ 8) : K_X0_isCondition [.ref c, .int i, .int t, .int k, .int x] (ct w p j P f g v) (RI (bI (cOK (P 0 0) (P 3 0) i t k x)) (ct w p j P f g v)) := by
  refine Con.mk [some (.ref c), some (.int i), some (.int t), some (.int k), some (.int x)] (by decide) rfl rfl (Nat.le_of_ble_eq_true rfl) (fun X h hR hnm => ?_)
  refine V.iload3 h 1 dX0_isCondition_0 rfl ?_
  refine V.tcase (off := 35) h (0 : Int32) 36 dX0_isCondition_1 (by decide) (by decide +kernel) rfl (fun c1_0 => ?_) (fun c1_0 => ?_)
  · refine V.iload4 h 38 dX0_isCondition_36 rfl ?_
    refine V.if_ne h 45 41 dX0_isCondition_38 rfl rfl (fun c38 => ?_) (fun c38 => ?_)
    · refine V.iconst h 46 dX0_isCondition_45 rfl ic1_0 ?_
      refine V.zret h hR (by first | exact bI_z _ | rfl) dX0_isCondition_46 ?_
      first | exact RI_t (by subst c1_0; unfold cOK; rw [if_pos rfl]; exact decide_eq_true c38) | exact RI_f (by subst c1_0; unfold cOK; rw [if_pos rfl]; exact decide_eq_false c38)
    · refine V.iconst h 42 dX0_isCondition_41 rfl ic1_1 (V.goto h 46 dX0_isCondition_42 rfl ?_)
      refine V.zret h hR (by first | exact bI_z _ | rfl) dX0_isCondition_46 ?_
      first | exact RI_t (by subst c1_0; unfold cOK; rw [if_pos rfl]; exact decide_eq_true c38) | exact RI_f (by subst c1_0; unfold cOK; rw [if_pos rfl]; exact decide_eq_false c38)
  refine V.tcase (off := 46) h (1 : Int32) 47 dX0_isCondition_1 (by decide) (by decide +kernel) rfl (fun c1_1 => ?_) (fun c1_1 => ?_)
  · refine V.iload4 h 49 dX0_isCondition_47 rfl (V.iconst h 50 dX0_isCondition_49 rfl ic1_1 ?_)
    refine V.icmp_lt h 65 53 dX0_isCondition_50 rfl rfl (fun c50 => ?_) (fun c50 => ?_)
    · refine V.iconst h 66 dX0_isCondition_65 rfl ic1_0 ?_
      refine V.zret h hR (by first | exact bI_z _ | rfl) dX0_isCondition_66 ?_
      subst c1_1
      have e : ∀ b, rng 1 x 999 = b → cOK (P 0 0) (P 3 0) i t 1 x = b := fun b h => h
      first | exact RI_t (e _ (rng_t c50 (nlt c58))) | exact RI_f (e _ (rng_f1 c50)) | exact RI_f (e _ (rng_f2 (lt_n c58)))
    · refine V.iload4 h 55 dX0_isCondition_53 rfl (V.sipush h 58 dX0_isCondition_55 rfl ic3_999 ?_)
      refine V.icmp_gt h 65 61 dX0_isCondition_58 rfl rfl (fun c58 => ?_) (fun c58 => ?_)
      · refine V.iconst h 66 dX0_isCondition_65 rfl ic1_0 ?_
        refine V.zret h hR (by first | exact bI_z _ | rfl) dX0_isCondition_66 ?_
        subst c1_1
        have e : ∀ b, rng 1 x 999 = b → cOK (P 0 0) (P 3 0) i t 1 x = b := fun b h => h
        first | exact RI_t (e _ (rng_t c50 (nlt c58))) | exact RI_f (e _ (rng_f1 c50)) | exact RI_f (e _ (rng_f2 (lt_n c58)))
      · refine V.iconst h 62 dX0_isCondition_61 rfl ic1_1 (V.goto h 66 dX0_isCondition_62 rfl ?_)
        refine V.zret h hR (by first | exact bI_z _ | rfl) dX0_isCondition_66 ?_
        subst c1_1
        have e : ∀ b, rng 1 x 999 = b → cOK (P 0 0) (P 3 0) i t 1 x = b := fun b h => h
        first | exact RI_t (e _ (rng_t c50 (nlt c58))) | exact RI_f (e _ (rng_f1 c50)) | exact RI_f (e _ (rng_f2 (lt_n c58)))
  refine V.tcase (off := 66) h (2 : Int32) 67 dX0_isCondition_1 (by decide) (by decide +kernel) rfl (fun c1_2 => ?_) (fun c1_2 => ?_)
  · refine V.iload4 h 69 dX0_isCondition_67 rfl (V.iconst h 70 dX0_isCondition_69 rfl ic1_1 ?_)
    refine V.icmp_lt h 84 73 dX0_isCondition_70 rfl rfl (fun c70 => ?_) (fun c70 => ?_)
    · refine V.iconst h 85 dX0_isCondition_84 rfl ic1_0 ?_
      refine V.zret h hR (by first | exact bI_z _ | rfl) dX0_isCondition_85 ?_
      subst c1_2
      have e : ∀ b, rng 1 x 11 = b → cOK (P 0 0) (P 3 0) i t 2 x = b := fun b h => h
      first | exact RI_f (e _ (rng_f1 c70)) | exact RI_t (e _ (rng_t c70 (lt12 (nle c77)))) | exact RI_f (e _ (rng_f2 (fun q => absurd c77 (lt12n q))))
    · refine V.iload4 h 75 dX0_isCondition_73 rfl (V.bipush h 77 dX0_isCondition_75 rfl ic2_12 ?_)
      refine V.icmp_ge h 84 80 dX0_isCondition_77 rfl rfl (fun c77 => ?_) (fun c77 => ?_)
      · refine V.iconst h 85 dX0_isCondition_84 rfl ic1_0 ?_
        refine V.zret h hR (by first | exact bI_z _ | rfl) dX0_isCondition_85 ?_
        subst c1_2
        have e : ∀ b, rng 1 x 11 = b → cOK (P 0 0) (P 3 0) i t 2 x = b := fun b h => h
        first | exact RI_f (e _ (rng_f1 c70)) | exact RI_t (e _ (rng_t c70 (lt12 (nle c77)))) | exact RI_f (e _ (rng_f2 (fun q => absurd c77 (lt12n q))))
      · refine V.iconst h 81 dX0_isCondition_80 rfl ic1_1 (V.goto h 85 dX0_isCondition_81 rfl ?_)
        refine V.zret h hR (by first | exact bI_z _ | rfl) dX0_isCondition_85 ?_
        subst c1_2
        have e : ∀ b, rng 1 x 11 = b → cOK (P 0 0) (P 3 0) i t 2 x = b := fun b h => h
        first | exact RI_f (e _ (rng_f1 c70)) | exact RI_t (e _ (rng_t c70 (lt12 (nle c77)))) | exact RI_f (e _ (rng_f2 (fun q => absurd c77 (lt12n q))))
  refine V.tcase (off := 85) h (3 : Int32) 86 dX0_isCondition_1 (by decide) (by decide +kernel) rfl (fun c1_3 => ?_) (fun c1_3 => ?_)
  · refine V.aload0 h 87 dX0_isCondition_86 rfl (V.gX0 h 0 90 dX0_isCondition_87 rfl rfl k145 (cto hc) rfl (V.iload4 h 92 dX0_isCondition_90 rfl (V.callNf (As := [.int _]) (st := []) h 95 dX0_isCondition_92 rfl k269 k266 k268 ks7 k2 hd_X2_hasPerson ⟨(Nat.le_of_ble_eq_true rfl), (Nat.le_of_ble_eq_true rfl)⟩ (Nat.le_of_ble_eq_true rfl) (ctP hc.2.2.2).po rfl rfl ⟨Nat.zero_le _, Nat.zero_le _⟩ (c_X2_hasPerson (ctP hc.2.2.2)) rfl ?_)))
    refine V.bif_eq h 108 98 dX0_isCondition_95 rfl rfl (fun c95 => ?_) (fun c95 => ?_)
    · refine V.iconst h 109 dX0_isCondition_108 rfl ic1_0 ?_
      refine V.zret h hR (by first | exact bI_z _ | rfl) dX0_isCondition_109 ?_
      subst c1_3
      have e : ∀ b, (hpe P x && !decide (x = i)) = b → cOK (P 0 0) (P 3 0) i t 3 x = b := fun b h => by rw [hpe_rng hq (by omega)] at h; exact h
      first | exact RI_t (e _ (by rw [c95, decide_eq_false c101]; rfl)) | exact RI_f (e _ (by rw [c95]; rfl)) | exact RI_f (e _ (by rw [c101, decide_eq_true rfl, Bool.and_comm]; rfl))
    · refine V.iload4 h 100 dX0_isCondition_98 rfl (V.iload1 h 101 dX0_isCondition_100 rfl ?_)
      refine V.icmp_eq h 108 104 dX0_isCondition_101 rfl rfl (fun c101 => ?_) (fun c101 => ?_)
      · refine V.iconst h 109 dX0_isCondition_108 rfl ic1_0 ?_
        refine V.zret h hR (by first | exact bI_z _ | rfl) dX0_isCondition_109 ?_
        subst c1_3
        have e : ∀ b, (hpe P x && !decide (x = i)) = b → cOK (P 0 0) (P 3 0) i t 3 x = b := fun b h => by rw [hpe_rng hq (by omega)] at h; exact h
        first | exact RI_t (e _ (by rw [c95, decide_eq_false c101]; rfl)) | exact RI_f (e _ (by rw [c95]; rfl)) | exact RI_f (e _ (by rw [c101, decide_eq_true rfl, Bool.and_comm]; rfl))
      · refine V.iconst h 105 dX0_isCondition_104 rfl ic1_1 (V.goto h 109 dX0_isCondition_105 rfl ?_)
        refine V.zret h hR (by first | exact bI_z _ | rfl) dX0_isCondition_109 ?_
        subst c1_3
        have e : ∀ b, (hpe P x && !decide (x = i)) = b → cOK (P 0 0) (P 3 0) i t 3 x = b := fun b h => by rw [hpe_rng hq (by omega)] at h; exact h
        first | exact RI_t (e _ (by rw [c95, decide_eq_false c101]; rfl)) | exact RI_f (e _ (by rw [c95]; rfl)) | exact RI_f (e _ (by rw [c101, decide_eq_true rfl, Bool.and_comm]; rfl))
  refine V.tcase (off := 109) h (4 : Int32) 110 dX0_isCondition_1 (by decide) (by decide +kernel) rfl (fun c1_4 => ?_) (fun c1_4 => ?_)
  · refine V.aload0 h 111 dX0_isCondition_110 rfl (V.gX0 h 0 114 dX0_isCondition_111 rfl rfl k145 (cto hc) rfl (V.iload4 h 116 dX0_isCondition_114 rfl (V.callNf (As := [.int _]) (st := []) h 119 dX0_isCondition_116 rfl k273 k270 k272 ks8 k2 hd_X2_hasProject ⟨(Nat.le_of_ble_eq_true rfl), (Nat.le_of_ble_eq_true rfl)⟩ (Nat.le_of_ble_eq_true rfl) (ctP hc.2.2.2).po rfl rfl ⟨Nat.zero_le _, Nat.zero_le _⟩ (c_X2_hasProject (ctP hc.2.2.2)) rfl ?_)))
    refine V.bif_eq h 132 122 dX0_isCondition_119 rfl rfl (fun c119 => ?_) (fun c119 => ?_)
    · refine V.iconst h 133 dX0_isCondition_132 rfl ic1_0 ?_
      refine V.zret h hR (by first | exact bI_z _ | rfl) dX0_isCondition_133 ?_
      subst c1_4
      have e : ∀ b, (hpj P x && !decide (x = t)) = b → cOK (P 0 0) (P 3 0) i t 4 x = b := fun b h => by rw [hpj_rng hn (by omega)] at h; exact h
      first | exact RI_t (e _ (by rw [c119, decide_eq_false c125]; rfl)) | exact RI_f (e _ (by rw [c119]; rfl)) | exact RI_f (e _ (by rw [c125, decide_eq_true rfl, Bool.and_comm]; rfl))
    · refine V.iload4 h 124 dX0_isCondition_122 rfl (V.iload2 h 125 dX0_isCondition_124 rfl ?_)
      refine V.icmp_eq h 132 128 dX0_isCondition_125 rfl rfl (fun c125 => ?_) (fun c125 => ?_)
      · refine V.iconst h 133 dX0_isCondition_132 rfl ic1_0 ?_
        refine V.zret h hR (by first | exact bI_z _ | rfl) dX0_isCondition_133 ?_
        subst c1_4
        have e : ∀ b, (hpj P x && !decide (x = t)) = b → cOK (P 0 0) (P 3 0) i t 4 x = b := fun b h => by rw [hpj_rng hn (by omega)] at h; exact h
        first | exact RI_t (e _ (by rw [c119, decide_eq_false c125]; rfl)) | exact RI_f (e _ (by rw [c119]; rfl)) | exact RI_f (e _ (by rw [c125, decide_eq_true rfl, Bool.and_comm]; rfl))
      · refine V.iconst h 129 dX0_isCondition_128 rfl ic1_1 (V.goto h 133 dX0_isCondition_129 rfl ?_)
        refine V.zret h hR (by first | exact bI_z _ | rfl) dX0_isCondition_133 ?_
        subst c1_4
        have e : ∀ b, (hpj P x && !decide (x = t)) = b → cOK (P 0 0) (P 3 0) i t 4 x = b := fun b h => by rw [hpj_rng hn (by omega)] at h; exact h
        first | exact RI_t (e _ (by rw [c119, decide_eq_false c125]; rfl)) | exact RI_f (e _ (by rw [c119]; rfl)) | exact RI_f (e _ (by rw [c125, decide_eq_true rfl, Bool.and_comm]; rfl))
  refine V.tdflt h 134 dX0_isCondition_1 (by have e0 := lv_neT (a := 0) c1_0 (by decide); have e1 := lv_neT (a := 1) c1_1 (by decide); have e2 := lv_neT (a := 2) c1_2 (by decide); have e3 := lv_neT (a := 3) c1_3 (by decide); have e4 := lv_neT (a := 4) c1_4 (by decide); omega) rfl ?_
  refine V.iconst h 135 dX0_isCondition_134 rfl ic1_0 ?_
  refine V.zret h hR (by first | exact bI_z _ | rfl) dX0_isCondition_135 ?_
  exact RI_f (by unfold cOK; rw [if_neg c1_0, if_neg c1_1, if_neg c1_2, if_neg c1_3, if_neg c1_4])
def cSt (P : Pl) (k : Nat) (i t a kd x : Int32) : Pl :=
  us (us (ua (ua (ua (ua (ua (ua P 8 (upd (P 8) k i)) 9 (upd (P 9) k t)) 10 (upd (P 10) k a)) 11 (upd (P 11) k kd)) 12 (upd (P 12) k x)) 13 (upd (P 13) k (P 14 0))) 14 (P 14 0 + 1)) 6 (P 6 0 ||| pw (nI k))
def cMk (P : Pl) (i t a kd x : Int32) : Int32 × Pl :=
  if (hpe P i && (hpj P t && (rng 1 a 999 && cOK (P 0 0) (P 3 0) i t kd x))) = true then
    (if (Bt (P 2 0) t.toNatClampNeg || decide (P 4 i.toNatClampNeg < amt P (ofP P i &&& P 6 0) + a)) = true then (-2, P)
     else if (12 : Int32) ≤ lfn P then (-3, P) else (lfn P, cSt P (lfn P).toNatClampNeg i t a kd x))
  else (-1, P)
theorem lfn_cases (P : Pl) : lfn P = 12 ∨ ∃ k, k < 12 ∧ lfn P = nI k ∧ Bt (live P) k = false ∧ ∀ j, j < k → Bt (live P) j = true := by
  unfold lfn
  rcases lf_cases (fun k => !Bt (live P) k) 12 0 with q | ⟨k, -, h2, h3, h4, h5⟩
  · rw [if_pos q]; exact Or.inl rfl
  · rw [h3, if_neg (show ¬ nI k = -1 from fun q => absurd (show nI k < 0 by rw [q]; decide) (nI_pos (by omega)))]
    refine Or.inr ⟨k, by omega, rfl, by simpa using h4, fun j hj => by simpa using h5 j (Nat.zero_le _) hj⟩
theorem c_X0_makePledge {w : Wd} {c p j np nq : Nat} {P : Pl} {f g : Nat → Int32} {v i t a kd x : Int32} (hc : CK w c p j) (hn : P 0 0 = nI np) (h4 : np ≤ 4) (hq : P 3 0 = nI nq) (h8 : nq ≤ 8) : K_X0_makePledge [.ref c, .int i, .int t, .int a, .int kd, .int x] (ct w p j P f g v) (RJ (cMk P i t a kd x) w p j) := by
  refine Con.mk [some (.ref c), some (.int i), some (.int t), some (.int a), some (.int kd), some (.int x), none, none] (by decide) rfl rfl (Nat.le_of_ble_eq_true rfl) (fun X h hR hnm => ?_)
  obtain ⟨tt, httn, ht⟩ : ∃ tt : Nat, tt < 4 ∧ (hpj P t = true → t = nI tt) := by
    by_cases h : hpj P t = true
    · obtain ⟨k, hk, e⟩ := rng_pred (n := np) (by omega) (by rw [← hn, ← hpj_rng hn (by omega)]; exact h)
      exact ⟨k, by omega, fun _ => e⟩
    · exact ⟨0, by decide, fun q => absurd q h⟩
  obtain ⟨ii, hiin, hi⟩ : ∃ ii : Nat, ii < 8 ∧ (hpe P i = true → i = nI ii) := by
    by_cases h : hpe P i = true
    · obtain ⟨k, hk, e⟩ := rng_pred (n := nq) (by omega) (by rw [← hq, ← hpe_rng hq (by omega)]; exact h)
      exact ⟨k, by omega, fun _ => e⟩
    · exact ⟨0, by decide, fun q => absurd q h⟩
  refine V.aload0 h 1 dX0_makePledge_0 rfl (V.gX0 h 0 4 dX0_makePledge_1 rfl rfl k145 (cto hc) rfl (V.iload1 h 5 dX0_makePledge_4 rfl (V.callNf (As := [.int _]) (st := []) h 8 dX0_makePledge_5 rfl k269 k266 k268 ks7 k2 hd_X2_hasPerson ⟨(Nat.le_of_ble_eq_true rfl), (Nat.le_of_ble_eq_true rfl)⟩ (Nat.le_of_ble_eq_true rfl) (ctP hc.2.2.2).po rfl rfl ⟨Nat.zero_le _, Nat.zero_le _⟩ (c_X2_hasPerson (ctP hc.2.2.2)) rfl ?_)))
  refine V.bif_eq h 47 11 dX0_makePledge_8 rfl rfl (fun c8 => ?_) (fun c8 => ?_)
  · refine V.iconst h 48 dX0_makePledge_47 rfl ic1_m1 ?_
    refine V.iret h hR dX0_makePledge_48 ?_
    first | exact RJ_of (by unfold cMk; rw [c8]; rfl) | exact RJ_of (by unfold cMk; rw [c8, c19]; rfl) | exact RJ_of (by unfold cMk; rw [c8, c19, rng_f1 c24]; rfl) | exact RJ_of (by unfold cMk; rw [c8, c19, rng_f2 (lt_n c31)]; rfl) | exact RJ_of (by unfold cMk; rw [c8, c19, rng_t c24 (nlt c31), c44]; rfl)
  · refine V.aload0 h 12 dX0_makePledge_11 rfl (V.gX0 h 0 15 dX0_makePledge_12 rfl rfl k145 (cto hc) rfl (V.iload2 h 16 dX0_makePledge_15 rfl (V.callNf (As := [.int _]) (st := []) h 19 dX0_makePledge_16 rfl k273 k270 k272 ks8 k2 hd_X2_hasProject ⟨(Nat.le_of_ble_eq_true rfl), (Nat.le_of_ble_eq_true rfl)⟩ (Nat.le_of_ble_eq_true rfl) (ctP hc.2.2.2).po rfl rfl ⟨Nat.zero_le _, Nat.zero_le _⟩ (c_X2_hasProject (ctP hc.2.2.2)) rfl ?_)))
    refine V.bif_eq h 47 22 dX0_makePledge_19 rfl rfl (fun c19 => ?_) (fun c19 => ?_)
    · refine V.iconst h 48 dX0_makePledge_47 rfl ic1_m1 ?_
      refine V.iret h hR dX0_makePledge_48 ?_
      first | exact RJ_of (by unfold cMk; rw [c8]; rfl) | exact RJ_of (by unfold cMk; rw [c8, c19]; rfl) | exact RJ_of (by unfold cMk; rw [c8, c19, rng_f1 c24]; rfl) | exact RJ_of (by unfold cMk; rw [c8, c19, rng_f2 (lt_n c31)]; rfl) | exact RJ_of (by unfold cMk; rw [c8, c19, rng_t c24 (nlt c31), c44]; rfl)
    · refine V.iload3 h 23 dX0_makePledge_22 rfl (V.iconst h 24 dX0_makePledge_23 rfl ic1_1 ?_)
      refine V.icmp_lt h 47 27 dX0_makePledge_24 rfl rfl (fun c24 => ?_) (fun c24 => ?_)
      · refine V.iconst h 48 dX0_makePledge_47 rfl ic1_m1 ?_
        refine V.iret h hR dX0_makePledge_48 ?_
        first | exact RJ_of (by unfold cMk; rw [c8]; rfl) | exact RJ_of (by unfold cMk; rw [c8, c19]; rfl) | exact RJ_of (by unfold cMk; rw [c8, c19, rng_f1 c24]; rfl) | exact RJ_of (by unfold cMk; rw [c8, c19, rng_f2 (lt_n c31)]; rfl) | exact RJ_of (by unfold cMk; rw [c8, c19, rng_t c24 (nlt c31), c44]; rfl)
      · refine V.iload3 h 28 dX0_makePledge_27 rfl (V.sipush h 31 dX0_makePledge_28 rfl ic3_999 ?_)
        refine V.icmp_gt h 47 34 dX0_makePledge_31 rfl rfl (fun c31 => ?_) (fun c31 => ?_)
        · refine V.iconst h 48 dX0_makePledge_47 rfl ic1_m1 ?_
          refine V.iret h hR dX0_makePledge_48 ?_
          first | exact RJ_of (by unfold cMk; rw [c8]; rfl) | exact RJ_of (by unfold cMk; rw [c8, c19]; rfl) | exact RJ_of (by unfold cMk; rw [c8, c19, rng_f1 c24]; rfl) | exact RJ_of (by unfold cMk; rw [c8, c19, rng_f2 (lt_n c31)]; rfl) | exact RJ_of (by unfold cMk; rw [c8, c19, rng_t c24 (nlt c31), c44]; rfl)
        · refine V.aload0 h 35 dX0_makePledge_34 rfl (V.iload1 h 36 dX0_makePledge_35 rfl (V.iload2 h 37 dX0_makePledge_36 rfl (V.iload4 h 39 dX0_makePledge_37 rfl (V.iload5 h 41 dX0_makePledge_39 rfl (V.callVf (As := [.int _, .int _, .int _, .int _]) (st := []) h 44 dX0_makePledge_41 rfl k277 k274 k276 ks9 k4 hd_X0_isCondition ⟨(Nat.le_of_ble_eq_true rfl), (Nat.le_of_ble_eq_true rfl)⟩ (Nat.le_of_ble_eq_true rfl) (cto hc) rfl rfl ⟨Nat.zero_le _, Nat.zero_le _⟩ (c_X0_isCondition hc hn h4 hq h8) rfl ?_)))))
          refine V.bif_ne h 49 47 dX0_makePledge_44 rfl rfl (fun c44 => ?_) (fun c44 => ?_)
          · obtain rfl := ht c19
            obtain rfl := hi c8
            have hmk : cMk P (nI ii) (nI tt) a kd x = (if (Bt (P 2 0) tt || decide (P 4 ii < amt P (ofP P (nI ii) &&& P 6 0) + a)) = true then (-2, P) else if (12 : Int32) ≤ lfn P then (-3, P) else (lfn P, cSt P (lfn P).toNatClampNeg (nI ii) (nI tt) a kd x)) := by
              unfold cMk
              rw [c8, c19, rng_t c24 (nlt c31), c44, nI_tn (by omega), nI_tn (by omega)]; rfl
            refine V.aload0 h 50 dX0_makePledge_49 rfl (V.gX0 h 0 53 dX0_makePledge_50 rfl rfl k145 (cto hc) rfl (V.aload0 h 54 dX0_makePledge_53 rfl (V.gX0 h 0 57 dX0_makePledge_54 rfl rfl k145 (cto hc) rfl (V.iload1 h 58 dX0_makePledge_57 rfl (V.callNf (As := [.int _]) (st := [.ref _]) h 61 dX0_makePledge_58 rfl k281 k278 k280 ks10 k2 hd_X2_pledgesOf ⟨(Nat.le_of_ble_eq_true rfl), (Nat.le_of_ble_eq_true rfl)⟩ (Nat.le_of_ble_eq_true rfl) (ctP hc.2.2.2).po rfl rfl ⟨Nat.zero_le _, Nat.zero_le _⟩ (c_X2_pledgesOf (ctP hc.2.2.2)) rfl (V.aload0 h 62 dX0_makePledge_61 rfl (V.gX0 h 0 65 dX0_makePledge_62 rfl rfl k145 (cto hc) rfl ?_)))))))
            refine V.gX2N h 6 68 dX0_makePledge_65 rfl rfl k43 (ctP hc.2.2.2).po rfl (V.iand h 69 dX0_makePledge_68 rfl (V.callNf (As := [.int _]) (st := []) h 72 dX0_makePledge_69 rfl k289 k286 k288 ks12 k2 hd_X2_sum ⟨(Nat.le_of_ble_eq_true rfl), (Nat.le_of_ble_eq_true rfl)⟩ (Nat.le_of_ble_eq_true rfl) (ctP hc.2.2.2).po rfl rfl ⟨Nat.zero_le _, Nat.zero_le _⟩ (c_X2_sum (ctP hc.2.2.2)) rfl (V.istore6 h 74 dX0_makePledge_72 rfl rfl (V.aload0 h 75 dX0_makePledge_74 rfl (V.gX0 h 0 78 dX0_makePledge_75 rfl rfl k145 (cto hc) rfl (V.iload2 h 79 dX0_makePledge_78 rfl ?_))))))
            refine V.callNf (As := [.int _]) (st := []) h 82 dX0_makePledge_79 rfl k293 k290 k292 ks13 k2 hd_X2_isClosed ⟨(Nat.le_of_ble_eq_true rfl), (Nat.le_of_ble_eq_true rfl)⟩ (Nat.le_of_ble_eq_true rfl) (ctP hc.2.2.2).po rfl rfl ⟨Nat.zero_le _, Nat.zero_le _⟩ (c_X2_isClosed (ctP hc.2.2.2) (by omega)) rfl ?_
            refine V.bif_ne h 101 85 dX0_makePledge_82 rfl rfl (fun c82 => ?_) (fun c82 => ?_)
            · refine V.bipush h 103 dX0_makePledge_101 rfl ic2_m2 ?_
              refine V.iret h hR dX0_makePledge_103 ?_
              first | exact RJ_of (by rw [hmk, c82]; rfl) | exact RJ_of (by rw [hmk, decide_eq_true (nle c98), Bool.or_true]; rfl)
            · refine V.aload0 h 86 dX0_makePledge_85 rfl (V.gX0 h 0 89 dX0_makePledge_86 rfl rfl k145 (cto hc) rfl (V.gX2N h 4 92 dX0_makePledge_89 rfl rfl k37 (ctP hc.2.2.2).po rfl (V.iload1 h 93 dX0_makePledge_92 rfl (V.ialdN h 94 dX0_makePledge_93 rfl (ctP hc.2.2.2).pa2 (by omega) (by decide) (V.iload6 h 96 dX0_makePledge_94 rfl (V.iload3 h 97 dX0_makePledge_96 rfl (V.iadd h 98 dX0_makePledge_97 rfl ?_)))))))
              refine V.icmp_ge h 104 101 dX0_makePledge_98 rfl rfl (fun c98 => ?_) (fun c98 => ?_)
              · refine V.aload0 h 105 dX0_makePledge_104 rfl (V.gX0 h 0 108 dX0_makePledge_105 rfl rfl k145 (cto hc) rfl (V.callNf (As := []) (st := []) h 111 dX0_makePledge_108 rfl k297 k294 k296 ks14 k2 hd_X2_lowestFreeNumber ⟨(Nat.le_of_ble_eq_true rfl), (Nat.le_of_ble_eq_true rfl)⟩ (Nat.le_of_ble_eq_true rfl) (ctP hc.2.2.2).po rfl rfl ⟨Nat.zero_le _, Nat.zero_le _⟩ (c_X2_lowestFreeNumber (ctP hc.2.2.2)) rfl (V.istore7 h 113 dX0_makePledge_111 rfl rfl (V.iload7 h 115 dX0_makePledge_113 rfl (V.bipush h 117 dX0_makePledge_115 rfl ic2_12 ?_)))))
                refine V.icmp_lt h 123 120 dX0_makePledge_117 rfl rfl (fun c117 => ?_) (fun c117 => ?_)
                · obtain ⟨k, hk, ek, -, -⟩ : ∃ k, k < 12 ∧ lfn P = nI k ∧ Bt (live P) k = false ∧ ∀ j, j < k → Bt (live P) j = true := by
                    rcases lfn_cases P with q | q
                    · exact absurd (show lfn P < 12 from by first | exact c117 | exact nle c117) (by rw [q]; decide)
                    · exact q
                  have hmk2 : cMk P (nI ii) (nI tt) a kd x = (nI k, cSt P k (nI ii) (nI tt) a kd x) := by
                    rw [hmk, if_neg (by rw [c82, decide_eq_false (le_n c98)]; decide), if_neg (by first | exact lt_n c117 | exact c117), ek, nI_tn (by omega)]
                  rw [ek]
                  refine V.aload0 h 124 dX0_makePledge_123 rfl (V.gX0 h 0 127 dX0_makePledge_124 rfl rfl k145 (cto hc) rfl (V.gX2N h 8 130 dX0_makePledge_127 rfl rfl k52 (ctP hc.2.2.2).po rfl (V.iload7 h 132 dX0_makePledge_130 rfl (V.iload1 h 133 dX0_makePledge_132 rfl (V.iastN h 134 dX0_makePledge_133 rfl (ctP hc.2.2.2).pa4 (by omega) (by decide) (V.at _ (ctw4 hc) (V.aload0 h 135 dX0_makePledge_134 rfl ?_)))))))
                  refine V.gX0 h 0 138 dX0_makePledge_135 rfl rfl k145 (cto hc) rfl (V.gX2N h 9 141 dX0_makePledge_138 rfl rfl k56 (ctP hc.2.2.2).po rfl (V.iload7 h 143 dX0_makePledge_141 rfl (V.iload2 h 144 dX0_makePledge_143 rfl (V.iastN h 145 dX0_makePledge_144 rfl (ctP hc.2.2.2).pa5 (by omega) (by decide) (V.at _ (ctw5 hc) (V.aload0 h 146 dX0_makePledge_145 rfl (V.gX0 h 0 149 dX0_makePledge_146 rfl rfl k145 (cto hc) rfl ?_)))))))
                  refine V.gX2N h 10 152 dX0_makePledge_149 rfl rfl k60 (ctP hc.2.2.2).po rfl (V.iload7 h 154 dX0_makePledge_152 rfl (V.iload3 h 155 dX0_makePledge_154 rfl (V.iastN h 156 dX0_makePledge_155 rfl (ctP hc.2.2.2).pa6 (by omega) (by decide) (V.at _ (ctw6 hc) (V.aload0 h 157 dX0_makePledge_156 rfl (V.gX0 h 0 160 dX0_makePledge_157 rfl rfl k145 (cto hc) rfl (V.gX2N h 11 163 dX0_makePledge_160 rfl rfl k64 (ctP hc.2.2.2).po rfl ?_)))))))
                  refine V.iload7 h 165 dX0_makePledge_163 rfl (V.iload4 h 167 dX0_makePledge_165 rfl (V.iastN h 168 dX0_makePledge_167 rfl (ctP hc.2.2.2).pa7 (by omega) (by decide) (V.at _ (ctw7 hc) (V.aload0 h 169 dX0_makePledge_168 rfl (V.gX0 h 0 172 dX0_makePledge_169 rfl rfl k145 (cto hc) rfl (V.gX2N h 12 175 dX0_makePledge_172 rfl rfl k68 (ctP hc.2.2.2).po rfl (V.iload7 h 177 dX0_makePledge_175 rfl ?_)))))))
                  refine V.iload5 h 179 dX0_makePledge_177 rfl (V.iastN h 180 dX0_makePledge_179 rfl (ctP hc.2.2.2).pa8 (by omega) (by decide) (V.at _ (ctw8 hc) (V.aload0 h 181 dX0_makePledge_180 rfl (V.gX0 h 0 184 dX0_makePledge_181 rfl rfl k145 (cto hc) rfl (V.gX2N h 13 187 dX0_makePledge_184 rfl rfl k71 (ctP hc.2.2.2).po rfl (V.iload7 h 189 dX0_makePledge_187 rfl (V.aload0 h 190 dX0_makePledge_189 rfl ?_)))))))
                  refine V.gX0 h 0 193 dX0_makePledge_190 rfl rfl k145 (cto hc) rfl (V.gX2N h 14 196 dX0_makePledge_193 rfl rfl k75 (ctP hc.2.2.2).po rfl (V.iastN h 197 dX0_makePledge_196 rfl (ctP hc.2.2.2).pa9 (by omega) (by decide) (V.at _ (ctw9 hc) (V.aload0 h 198 dX0_makePledge_197 rfl (V.gX0 h 0 201 dX0_makePledge_198 rfl rfl k145 (cto hc) rfl (V.dup h 202 dX0_makePledge_201 rfl rfl (V.gX2N h 14 205 dX0_makePledge_202 rfl rfl k75 (ctP hc.2.2.2).po rfl ?_)))))))
                  refine V.iconst h 206 dX0_makePledge_205 rfl ic1_1 (V.iadd h 207 dX0_makePledge_206 rfl (V.sX2N h 14 210 dX0_makePledge_207 rfl rfl k75 rfl rfl rfl (ctP hc.2.2.2).po rfl (V.at _ (ctp14 hc) (V.aload0 h 211 dX0_makePledge_210 rfl (V.gX0 h 0 214 dX0_makePledge_211 rfl rfl k145 (cto hc) rfl (V.dup h 215 dX0_makePledge_214 rfl rfl (V.gX2N h 6 218 dX0_makePledge_215 rfl rfl k43 (ctP hc.2.2.2).po rfl ?_)))))))
                  refine V.iconst h 219 dX0_makePledge_218 rfl ic1_1 (V.iload7 h 221 dX0_makePledge_219 rfl (V.ishl h 222 dX0_makePledge_221 rfl (V.ior h 223 dX0_makePledge_222 rfl (V.sX2N h 6 226 dX0_makePledge_223 rfl rfl k43 rfl rfl rfl (ctP hc.2.2.2).po rfl (V.at _ (ctp6 hc) (V.iload7 h 228 dX0_makePledge_226 rfl ?_))))))
                  refine V.iret h hR dX0_makePledge_228 ?_
                  exact RJ_of (by rw [hmk2]; rfl)
                · refine V.bipush h 122 dX0_makePledge_120 rfl ic2_m3 ?_
                  refine V.iret h hR dX0_makePledge_122 ?_
                  exact RJ_of (by rw [hmk, if_neg (by rw [c82, decide_eq_false (le_n c98)]; decide), if_pos (nlt c117)])
              · refine V.bipush h 103 dX0_makePledge_101 rfl ic2_m2 ?_
                refine V.iret h hR dX0_makePledge_103 ?_
                first | exact RJ_of (by rw [hmk, c82]; rfl) | exact RJ_of (by rw [hmk, decide_eq_true (nle c98), Bool.or_true]; rfl)
          · refine V.iconst h 48 dX0_makePledge_47 rfl ic1_m1 ?_
            refine V.iret h hR dX0_makePledge_48 ?_
            first | exact RJ_of (by unfold cMk; rw [c8]; rfl) | exact RJ_of (by unfold cMk; rw [c8, c19]; rfl) | exact RJ_of (by unfold cMk; rw [c8, c19, rng_f1 c24]; rfl) | exact RJ_of (by unfold cMk; rw [c8, c19, rng_f2 (lt_n c31)]; rfl) | exact RJ_of (by unfold cMk; rw [c8, c19, rng_t c24 (nlt c31), c44]; rfl)
