/-! the class: what its face changes -/
theorem xq5' {W : Wd} {c : Nat} {x v : Int32} : wset W c (.inr (4, (ofl c x).set 5 (.int v))) = wset W c (.inr (4, ofl c v)) := rfl
def CJ (w : Wd) (c n : Nat) (P S : Pl) (H : Nat → Pl) : Prop := ∃ σ, CI w c n P S σ H
theorem c_X4_keepState {w : Wd} {c n : Nat} {P S : Pl} {σ : Nat → Nat} {H : Nat → Pl} (hC : CI w c n P S σ H) (hn : n ≤ 4) : K_X4_keepState [.ref c] w (RVE (fun u => CI u c n P S σ (uH H n P) ∧ Fr c w u)) := by
  refine Con.mk [some (.ref c)] (by decide) rfl rfl (Nat.le_of_ble_eq_true rfl) (fun X h hR hnm => ?_)
  have hd : sA c σ n + 10 ≤ c + 1 ∨ c + 1 + 10 ≤ sA c σ n := by unfold sA; omega
  have hcp := c_X2_copyFrom (w := w) (p := sA c σ n) (P := H n) hC.2.1 hd
  rw [← hC.idh (show n < 5 by omega)] at hcp
  refine V.aload0 h 1 dX4_keepState_0 rfl (V.gX4 h 4 4 dX4_keepState_1 rfl rfl k204 hC.ob rfl (V.aload0 h 5 dX4_keepState_4 rfl (V.gX4 h 5 8 dX4_keepState_5 rfl rfl k205 hC.ob rfl (V.aaldN h 9 dX4_keepState_8 rfl hC.hi (by omega) (by decide) (V.aload0 h 10 dX4_keepState_9 rfl (V.gX4 h 0 13 dX4_keepState_10 rfl rfl k200 hC.ob rfl ?_))))))
  refine V.callNfv (As := [.ref _]) (st := []) h 16 dX4_keepState_13 rfl k234 k231 k233 ks1 k2 hd_X2_copyFrom ⟨(Nat.le_of_ble_eq_true rfl), (Nat.le_of_ble_eq_true rfl)⟩ (Nat.le_of_ble_eq_true rfl) (hC.hp (show n < 5 by omega)).po rfl rfl ⟨Nat.zero_le _, Nat.zero_le _⟩ hcp rfl ?_
  refine V.vret h hR dX4_keepState_16 ?_
  exact ⟨rfl, hC.his (by omega)⟩
def hH (n : Nat) (H : Nat → Pl) : Nat → Pl := if n = 4 then rotP H else H
theorem CI.drop {w : Wd} {c n : Nat} {P S : Pl} {σ : Nat → Nat} {H : Nat → Pl} (hC : CI w c n P S σ H) : CJ (wset (wset w (c + 32) (plcs (fun i => some (rotF (sA c σ) i)))) c (.inr (4, ofl c (nI 4)))) c 4 P S (rotP H) ∧ Fr c w (wset (wset w (c + 32) (plcs (fun i => some (rotF (sA c σ) i)))) c (.inr (4, ofl c (nI 4)))) := by
  have h1 := hC.rot (τ := rotF σ) (H' := rotP H) (F := fun i => some (rotF (sA c σ) i)) (funext fun i => by rw [rot_sA]) (fun i hi => by
    rw [rot_sA]
    unfold rotF rotP
    by_cases h : i < 4
    · rw [if_pos h, if_pos h]; exact hC.hp (by omega)
    · rw [if_neg h, if_neg h, if_pos (by omega), if_pos (by omega)]; exact hC.hp (by omega)) (fun i hi => by
    unfold rotF
    by_cases h : i < 4
    · rw [if_pos h]; exact hC.sg (by omega)
    · rw [if_neg h, if_pos (by omega)]; exact hC.sg (by omega)) (fun i j hi hj e => by
    unfold rotF at e
    have hinj := hC.2.2.2.2.2.2.2.2.2.2.2.1
    by_cases h : i < 4
    · rw [if_pos h] at e
      by_cases h' : j < 4
      · rw [if_pos h'] at e
        have := hinj _ _ (by omega) (by omega) e
        omega
      · rw [if_neg h', if_pos (by omega)] at e
        have := hinj _ _ (by omega) (by omega) e
        omega
    · rw [if_neg h, if_pos (by omega)] at e
      by_cases h' : j < 4
      · rw [if_pos h'] at e
        have := hinj _ _ (by omega) (by omega) e
        omega
      · omega)
  have h2 := h1.1.set (m := 4)
  exact ⟨⟨_, h2.1⟩, h1.2.tr h2.2⟩
def nxN (n : Nat) (a : Int32) : Nat := if a < 0 then n else hN n + 1
def nxH (n : Nat) (H : Nat → Pl) (a : Int32) : Nat → Pl := if a < 0 then H else hH n H
theorem c_X4_settle {w : Wd} {c n : Nat} {P S : Pl} {σ : Nat → Nat} {H : Nat → Pl} {a : Int32} (hC : CI w c n P S σ H) (hn : n ≤ 4) : K_X4_settle [.ref c, .int a] w (RE a (fun u => CJ u c (nxN n a) P S (nxH n H a) ∧ Fr c w u)) := by
  refine Con.mk [some (.ref c), some (.int a)] (by decide) rfl rfl (Nat.le_of_ble_eq_true rfl) (fun X h hR hnm => ?_)
  unfold nxN nxH at hR
  by_cases ha : a < 0
  · rw [if_pos ha, if_pos ha] at hR
    refine V.iload1 h 1 dX4_settle_0 rfl ?_
    refine V.if_lt h 26 4 dX4_settle_1 rfl rfl (fun _ => ?_) (fun q => absurd ha q)
    refine V.iload1 h 27 dX4_settle_26 rfl ?_
    refine V.iret h hR dX4_settle_27 ?_
    exact ⟨rfl, ⟨σ, hC⟩, Fr.rf⟩
  · rw [if_neg ha, if_neg ha] at hR
    have h1 := hC.set (m := n + 1)
    by_cases h4 : n = 4
    · subst h4
      have h2 := h1.1.drop
      have K : V X 0 0 14 [some (.ref c), some (.int a)] [] (wset w c (.inr (4, ofl c (nI (4 + 1))))) := by
        refine V.aload0 h 15 dX4_settle_14 rfl (V.gX4 h 5 18 dX4_settle_15 rfl rfl k205 h1.1.ob rfl (V.iconst h 19 dX4_settle_18 rfl ic1_4 ?_))
        refine V.icmp_le h 26 22 dX4_settle_19 rfl rfl (fun q => absurd q (show ¬ nI (4 + 1) ≤ (4 : Int32) by decide)) (fun _ => ?_)
        refine V.aload0 h 23 dX4_settle_22 rfl (V.callVfv (As := []) (st := []) h 26 dX4_settle_23 rfl k249 k246 k248 ks4 k1 hd_X4_dropOldest ⟨(Nat.le_of_ble_eq_true rfl), (Nat.le_of_ble_eq_true rfl)⟩ (Nat.le_of_ble_eq_true rfl) h1.1.ob rfl rfl ⟨Nat.zero_le _, Nat.zero_le _⟩ (c_X4_dropOldest h1.1) rfl (V.iload1 h 27 dX4_settle_26 rfl ?_))
        refine V.iret h hR dX4_settle_27 ?_
        exact ⟨rfl, h2.1, h1.2.tr h2.2⟩
      refine V.iload1 h 1 dX4_settle_0 rfl ?_
      refine V.if_lt h 26 4 dX4_settle_1 rfl rfl (fun q => absurd q ha) (fun _ => ?_)
      refine V.aload0 h 5 dX4_settle_4 rfl (V.dup h 6 dX4_settle_5 rfl rfl (V.gX4 h 5 9 dX4_settle_6 rfl rfl k205 hC.ob rfl (V.iconst h 10 dX4_settle_9 rfl ic1_1 (V.iadd h 11 dX4_settle_10 rfl ?_))))
      rw [show nI 4 + 1 = nI (4 + 1) from (nI_succ 4).symm]
      refine V.sX4 h 5 14 dX4_settle_11 rfl rfl k205 rfl rfl rfl hC.ob rfl (V.at _ xq5 ?_)
      exact K
    · have e1 : hN n = n := by unfold hN; rw [if_neg h4]
      have e2 : hH n H = H := by unfold hH; rw [if_neg h4]
      rw [e1, e2] at hR
      have K : V X 0 0 14 [some (.ref c), some (.int a)] [] (wset w c (.inr (4, ofl c (nI (n + 1))))) := by
        refine V.aload0 h 15 dX4_settle_14 rfl (V.gX4 h 5 18 dX4_settle_15 rfl rfl k205 h1.1.ob rfl (V.iconst h 19 dX4_settle_18 rfl ic1_4 ?_))
        refine V.icmp_le h 26 22 dX4_settle_19 rfl rfl (fun _ => ?_) (fun q => absurd (show nI (n + 1) ≤ (4 : Int32) from show nI (n + 1) ≤ nI 4 from nI_le (by omega) (by decide)) q)
        refine V.iload1 h 27 dX4_settle_26 rfl ?_
        refine V.iret h hR dX4_settle_27 ?_
        exact ⟨rfl, ⟨σ, h1.1⟩, h1.2⟩
      refine V.iload1 h 1 dX4_settle_0 rfl ?_
      refine V.if_lt h 26 4 dX4_settle_1 rfl rfl (fun q => absurd q ha) (fun _ => ?_)
      refine V.aload0 h 5 dX4_settle_4 rfl (V.dup h 6 dX4_settle_5 rfl rfl (V.gX4 h 5 9 dX4_settle_6 rfl rfl k205 hC.ob rfl (V.iconst h 10 dX4_settle_9 rfl ic1_1 (V.iadd h 11 dX4_settle_10 rfl ?_))))
      rw [show nI n + 1 = nI (n + 1) from (nI_succ n).symm]
      refine V.sX4 h 5 14 dX4_settle_11 rfl rfl k205 rfl rfl rfl hC.ob rfl (V.at _ xq5 ?_)
      exact K
def CP (q : Int32 × Pl) (w : Wd) (c n : Nat) (P S : Pl) (H : Nat → Pl) : Option Value → Wd → Prop := RE q.1 (fun u => CJ u c (nxN n q.1) q.2 S (nxH n (uH H n P) q.1) ∧ Fr c w u)
theorem c_X4_project {w : Wd} {c n np : Nat} {P S : Pl} {σ : Nat → Nat} {H : Nat → Pl} {y : Int32} (hC : CI w c n P S σ H) (hn : n ≤ 4) (hP0 : P 0 0 = nI np) (h4 : np ≤ 4) : K_X4_project [.ref c, .int y] w (CP (cAdd P y) w c n P S H) := by
  refine Con.mk [some (.ref c), some (.int y)] (by decide) rfl rfl (Nat.le_of_ble_eq_true rfl) (fun X h hR hnm => ?_)
  refine V.aload0 h 1 dX4_project_0 rfl (V.callVev (As := []) (st := []) h 4 dX4_project_1 rfl k230 k227 k229 ks0 k1 hd_X4_keepState ⟨(Nat.le_of_ble_eq_true rfl), (Nat.le_of_ble_eq_true rfl)⟩ (Nat.le_of_ble_eq_true rfl) hC.ob rfl rfl ⟨Nat.zero_le _, Nat.zero_le _⟩ (c_X4_keepState hC hn) rfl (fun w1 hw1 => ?_))
  obtain ⟨hC1, hF1⟩ := hw1
  obtain ⟨f, g, v, ew⟩ := hC1.id
  refine V.at _ ew ?_
  have hob := hC1.ob
  have hck : CK w1 (c + 14) (c + 1) (c + 11) := hC1.ck
  refine V.aload0 h 5 dX4_project_4 rfl (V.aload0 h 6 dX4_project_5 rfl (V.gX4 h 2 9 dX4_project_6 rfl rfl k202 (ob hob) rfl (V.iload1 h 10 dX4_project_9 rfl (V.callNe (As := [.int _]) (st := [.ref _]) h 13 dX4_project_10 rfl k241 k238 k240 ks2 k4 hd_X0_addProject ⟨(Nat.le_of_ble_eq_true rfl), (Nat.le_of_ble_eq_true rfl)⟩ (Nat.le_of_ble_eq_true rfl) (cto hck) rfl rfl ⟨Nat.zero_le _, Nat.zero_le _⟩ (c_X0_addProject hck hP0 h4) rfl (fun w10 hw10 => ?_)))))
  obtain ⟨f2, g2, v2, rfl⟩ := hw10
  refine V.callVe (As := [.int _]) (st := []) h 16 dX4_project_13 rfl k245 k242 k244 ks3 k1 hd_X4_settle ⟨(Nat.le_of_ble_eq_true rfl), (Nat.le_of_ble_eq_true rfl)⟩ (Nat.le_of_ble_eq_true rfl) (ob hob) rfl rfl ⟨Nat.zero_le _, Nat.zero_le _⟩ (c_X4_settle (hC1.ct (P' := (cAdd P y).2) (f := f2) (g := g2) (v := v2)).1 hn) rfl (fun w13 hw13 => ?_)
  obtain ⟨hJ, hF3⟩ := hw13
  refine V.iret h hR dX4_project_16 ?_
  exact ⟨rfl, hJ, (hF1.tr (hC1.ct (P' := (cAdd P y).2) (f := f2) (g := g2) (v := v2)).2).tr hF3⟩
theorem c_X4_person {w : Wd} {c n nq : Nat} {P S : Pl} {σ : Nat → Nat} {H : Nat → Pl} {y : Int32} (hC : CI w c n P S σ H) (hn : n ≤ 4) (hP3 : P 3 0 = nI nq) (h8 : nq ≤ 8) : K_X4_person [.ref c, .int y] w (CP (cCome P y) w c n P S H) := by
  refine Con.mk [some (.ref c), some (.int y)] (by decide) rfl rfl (Nat.le_of_ble_eq_true rfl) (fun X h hR hnm => ?_)
  refine V.aload0 h 1 dX4_person_0 rfl (V.callVev (As := []) (st := []) h 4 dX4_person_1 rfl k230 k227 k229 ks0 k1 hd_X4_keepState ⟨(Nat.le_of_ble_eq_true rfl), (Nat.le_of_ble_eq_true rfl)⟩ (Nat.le_of_ble_eq_true rfl) hC.ob rfl rfl ⟨Nat.zero_le _, Nat.zero_le _⟩ (c_X4_keepState hC hn) rfl (fun w1 hw1 => ?_))
  obtain ⟨hC1, hF1⟩ := hw1
  obtain ⟨f, g, v, ew⟩ := hC1.id
  refine V.at _ ew ?_
  have hob := hC1.ob
  have hck : CK w1 (c + 14) (c + 1) (c + 11) := hC1.ck
  refine V.aload0 h 5 dX4_person_4 rfl (V.aload0 h 6 dX4_person_5 rfl (V.gX4 h 2 9 dX4_person_6 rfl rfl k202 (ob hob) rfl (V.iload1 h 10 dX4_person_9 rfl (V.callNe (As := [.int _]) (st := [.ref _]) h 13 dX4_person_10 rfl k257 k254 k256 ks5 k4 hd_X0_addPerson ⟨(Nat.le_of_ble_eq_true rfl), (Nat.le_of_ble_eq_true rfl)⟩ (Nat.le_of_ble_eq_true rfl) (cto hck) rfl rfl ⟨Nat.zero_le _, Nat.zero_le _⟩ (c_X0_addPerson hck hP3 h8) rfl (fun w10 hw10 => ?_)))))
  obtain ⟨f2, g2, v2, rfl⟩ := hw10
  refine V.callVe (As := [.int _]) (st := []) h 16 dX4_person_13 rfl k245 k242 k244 ks3 k1 hd_X4_settle ⟨(Nat.le_of_ble_eq_true rfl), (Nat.le_of_ble_eq_true rfl)⟩ (Nat.le_of_ble_eq_true rfl) (ob hob) rfl rfl ⟨Nat.zero_le _, Nat.zero_le _⟩ (c_X4_settle (hC1.ct (P' := (cCome P y).2) (f := f2) (g := g2) (v := v2)).1 hn) rfl (fun w13 hw13 => ?_)
  obtain ⟨hJ, hF3⟩ := hw13
  refine V.iret h hR dX4_person_16 ?_
  exact ⟨rfl, hJ, (hF1.tr (hC1.ct (P' := (cCome P y).2) (f := f2) (g := g2) (v := v2)).2).tr hF3⟩
theorem c_X4_pledge {w : Wd} {c n np nq : Nat} {P S : Pl} {σ : Nat → Nat} {H : Nat → Pl} {i t a kd y : Int32} (hC : CI w c n P S σ H) (hn : n ≤ 4) (hP0 : P 0 0 = nI np) (h4 : np ≤ 4) (hP3 : P 3 0 = nI nq) (h8 : nq ≤ 8) : K_X4_pledge [.ref c, .int i, .int t, .int a, .int kd, .int y] w (CP (cMk P i t a kd y) w c n P S H) := by
  refine Con.mk [some (.ref c), some (.int i), some (.int t), some (.int a), some (.int kd), some (.int y)] (by decide) rfl rfl (Nat.le_of_ble_eq_true rfl) (fun X h hR hnm => ?_)
  refine V.aload0 h 1 dX4_pledge_0 rfl (V.callVev (As := []) (st := []) h 4 dX4_pledge_1 rfl k230 k227 k229 ks0 k1 hd_X4_keepState ⟨(Nat.le_of_ble_eq_true rfl), (Nat.le_of_ble_eq_true rfl)⟩ (Nat.le_of_ble_eq_true rfl) hC.ob rfl rfl ⟨Nat.zero_le _, Nat.zero_le _⟩ (c_X4_keepState hC hn) rfl (fun w1 hw1 => ?_))
  obtain ⟨hC1, hF1⟩ := hw1
  obtain ⟨f, g, v, ew⟩ := hC1.id
  refine V.at _ ew ?_
  have hob := hC1.ob
  have hck : CK w1 (c + 14) (c + 1) (c + 11) := hC1.ck
  refine V.aload0 h 5 dX4_pledge_4 rfl (V.aload0 h 6 dX4_pledge_5 rfl (V.gX4 h 2 9 dX4_pledge_6 rfl rfl k202 (ob hob) rfl (V.iload1 h 10 dX4_pledge_9 rfl (V.iload2 h 11 dX4_pledge_10 rfl (V.iload3 h 12 dX4_pledge_11 rfl (V.iload4 h 14 dX4_pledge_12 rfl (V.iload5 h 16 dX4_pledge_14 rfl ?_)))))))
  refine V.callNe (As := [.int _, .int _, .int _, .int _, .int _]) (st := [.ref _]) h 19 dX4_pledge_16 rfl k265 k262 k264 ks6 k4 hd_X0_makePledge ⟨(Nat.le_of_ble_eq_true rfl), (Nat.le_of_ble_eq_true rfl)⟩ (Nat.le_of_ble_eq_true rfl) (cto hck) rfl rfl ⟨Nat.zero_le _, Nat.zero_le _⟩ (c_X0_makePledge hck hP0 h4 hP3 h8) rfl (fun w16 hw16 => ?_)
  obtain ⟨f2, g2, v2, rfl⟩ := hw16
  refine V.callVe (As := [.int _]) (st := []) h 22 dX4_pledge_19 rfl k245 k242 k244 ks3 k1 hd_X4_settle ⟨(Nat.le_of_ble_eq_true rfl), (Nat.le_of_ble_eq_true rfl)⟩ (Nat.le_of_ble_eq_true rfl) (ob hob) rfl rfl ⟨Nat.zero_le _, Nat.zero_le _⟩ (c_X4_settle (hC1.ct (P' := (cMk P i t a kd y).2) (f := f2) (g := g2) (v := v2)).1 hn) rfl (fun w19 hw19 => ?_)
  obtain ⟨hJ, hF3⟩ := hw19
  refine V.iret h hR dX4_pledge_22 ?_
  exact ⟨rfl, hJ, (hF1.tr (hC1.ct (P' := (cMk P i t a kd y).2) (f := f2) (g := g2) (v := v2)).2).tr hF3⟩
theorem c_X4_withdraw {w : Wd} {c n : Nat} {P S : Pl} {σ : Nat → Nat} {H : Nat → Pl} {y : Int32} (hC : CI w c n P S σ H) (hn : n ≤ 4) (hO : POK P) : K_X4_withdraw [.ref c, .int y] w (CP (cWd P y) w c n P S H) := by
  refine Con.mk [some (.ref c), some (.int y)] (by decide) rfl rfl (Nat.le_of_ble_eq_true rfl) (fun X h hR hnm => ?_)
  refine V.aload0 h 1 dX4_withdraw_0 rfl (V.callVev (As := []) (st := []) h 4 dX4_withdraw_1 rfl k230 k227 k229 ks0 k1 hd_X4_keepState ⟨(Nat.le_of_ble_eq_true rfl), (Nat.le_of_ble_eq_true rfl)⟩ (Nat.le_of_ble_eq_true rfl) hC.ob rfl rfl ⟨Nat.zero_le _, Nat.zero_le _⟩ (c_X4_keepState hC hn) rfl (fun w1 hw1 => ?_))
  obtain ⟨hC1, hF1⟩ := hw1
  obtain ⟨f, g, v, ew⟩ := hC1.id
  refine V.at _ ew ?_
  have hob := hC1.ob
  have hck : CK w1 (c + 14) (c + 1) (c + 11) := hC1.ck
  refine V.aload0 h 5 dX4_withdraw_4 rfl (V.aload0 h 6 dX4_withdraw_5 rfl (V.gX4 h 2 9 dX4_withdraw_6 rfl rfl k202 (ob hob) rfl (V.iload1 h 10 dX4_withdraw_9 rfl (V.callNe (As := [.int _]) (st := [.ref _]) h 13 dX4_withdraw_10 rfl k309 k306 k308 ks16 k4 hd_X0_takeBack ⟨(Nat.le_of_ble_eq_true rfl), (Nat.le_of_ble_eq_true rfl)⟩ (Nat.le_of_ble_eq_true rfl) (cto hck) rfl rfl ⟨Nat.zero_le _, Nat.zero_le _⟩ (c_X0_takeBack hck hO) rfl (fun w10 hw10 => ?_)))))
  obtain ⟨f2, g2, v2, rfl⟩ := hw10
  refine V.callVe (As := [.int _]) (st := []) h 16 dX4_withdraw_13 rfl k245 k242 k244 ks3 k1 hd_X4_settle ⟨(Nat.le_of_ble_eq_true rfl), (Nat.le_of_ble_eq_true rfl)⟩ (Nat.le_of_ble_eq_true rfl) (ob hob) rfl rfl ⟨Nat.zero_le _, Nat.zero_le _⟩ (c_X4_settle (hC1.ct (P' := (cWd P y).2) (f := f2) (g := g2) (v := v2)).1 hn) rfl (fun w13 hw13 => ?_)
  obtain ⟨hJ, hF3⟩ := hw13
  refine V.iret h hR dX4_withdraw_16 ?_
  exact ⟨rfl, hJ, (hF1.tr (hC1.ct (P' := (cWd P y).2) (f := f2) (g := g2) (v := v2)).2).tr hF3⟩
theorem c_X4_callIn {w : Wd} {c n np : Nat} {P S : Pl} {σ : Nat → Nat} {H : Nat → Pl} {y : Int32} (hC : CI w c n P S σ H) (hn : n ≤ 4) (hP0 : P 0 0 = nI np) (h4 : np ≤ 4) (hO : POK P) : K_X4_callIn [.ref c, .int y] w (CP (cCo P y) w c n P S H) := by
  refine Con.mk [some (.ref c), some (.int y)] (by decide) rfl rfl (Nat.le_of_ble_eq_true rfl) (fun X h hR hnm => ?_)
  refine V.aload0 h 1 dX4_callIn_0 rfl (V.callVev (As := []) (st := []) h 4 dX4_callIn_1 rfl k230 k227 k229 ks0 k1 hd_X4_keepState ⟨(Nat.le_of_ble_eq_true rfl), (Nat.le_of_ble_eq_true rfl)⟩ (Nat.le_of_ble_eq_true rfl) hC.ob rfl rfl ⟨Nat.zero_le _, Nat.zero_le _⟩ (c_X4_keepState hC hn) rfl (fun w1 hw1 => ?_))
  obtain ⟨hC1, hF1⟩ := hw1
  obtain ⟨f, g, v, ew⟩ := hC1.id
  refine V.at _ ew ?_
  have hob := hC1.ob
  have hck : CK w1 (c + 14) (c + 1) (c + 11) := hC1.ck
  refine V.aload0 h 5 dX4_callIn_4 rfl (V.aload0 h 6 dX4_callIn_5 rfl (V.gX4 h 2 9 dX4_callIn_6 rfl rfl k202 (ob hob) rfl (V.iload1 h 10 dX4_callIn_9 rfl (V.callNe (As := [.int _]) (st := [.ref _]) h 13 dX4_callIn_10 rfl k334 k331 k333 ks21 k4 hd_X0_collect ⟨(Nat.le_of_ble_eq_true rfl), (Nat.le_of_ble_eq_true rfl)⟩ (Nat.le_of_ble_eq_true rfl) (cto hck) rfl rfl ⟨Nat.zero_le _, Nat.zero_le _⟩ (c_X0_collect hck hP0 h4 hO) rfl (fun w10 hw10 => ?_)))))
  obtain ⟨f2, g2, v2, rfl⟩ := hw10
  refine V.callVe (As := [.int _]) (st := []) h 16 dX4_callIn_13 rfl k245 k242 k244 ks3 k1 hd_X4_settle ⟨(Nat.le_of_ble_eq_true rfl), (Nat.le_of_ble_eq_true rfl)⟩ (Nat.le_of_ble_eq_true rfl) (ob hob) rfl rfl ⟨Nat.zero_le _, Nat.zero_le _⟩ (c_X4_settle (hC1.ct (P' := (cCo P y).2) (f := f2) (g := g2) (v := v2)).1 hn) rfl (fun w13 hw13 => ?_)
  obtain ⟨hJ, hF3⟩ := hw13
  refine V.iret h hR dX4_callIn_16 ?_
  exact ⟨rfl, hJ, (hF1.tr (hC1.ct (P' := (cCo P y).2) (f := f2) (g := g2) (v := v2)).2).tr hF3⟩
theorem c_X4_undo {w : Wd} {c n : Nat} {P S : Pl} {σ : Nat → Nat} {H : Nat → Pl} (hC : CI w c n P S σ H) (hn : n ≤ 4) : K_X4_undo [.ref c] w (RE (if n = 0 then -2 else nI (n - 1)) (fun u => CJ u c (n - 1) (if n = 0 then P else H (n - 1)) S H ∧ Fr c w u)) := by
  refine Con.mk [some (.ref c)] (by decide) rfl rfl (Nat.le_of_ble_eq_true rfl) (fun X h hR hnm => ?_)
  by_cases h0 : n = 0
  · subst h0
    refine V.aload0 h 1 dX4_undo_0 rfl (V.gX4 h 5 4 dX4_undo_1 rfl rfl k205 hC.ob rfl ?_)
    refine V.if_gt h 10 7 dX4_undo_4 rfl rfl (fun q => absurd q (show ¬ (0 : Int32) < nI 0 by decide)) (fun _ => ?_)
    refine V.bipush h 9 dX4_undo_7 rfl ic2_m2 ?_
    refine V.iret h hR dX4_undo_9 ?_
    exact ⟨rfl, ⟨σ, hC⟩, Fr.rf⟩
  · obtain ⟨m, rfl⟩ : ∃ m, n = m + 1 := ⟨n - 1, by omega⟩
    rw [if_neg h0, if_neg h0, show m + 1 - 1 = m by omega] at hR
    have h1 := hC.set (m := m)
    have hd : c + 1 + 10 ≤ sA c σ m ∨ sA c σ m + 10 ≤ c + 1 := by unfold sA; omega
    have hcp := c_X2_copyFrom (w := wset w c (.inr (4, ofl c (nI m)))) (p := c + 1) (P := P) (h1.1.hp (show m < 5 by omega)) hd
    rw [← h1.1.idp] at hcp
    have h2 := h1.1.now (Q := H m)
    have K2 : V X 0 0 36 [some (.ref c)] [] (ps (wset w c (.inr (4, ofl c (nI m)))) (c + 1) (H m)) := by
      refine V.aload0 h 37 dX4_undo_36 rfl (V.gX4 h 5 40 dX4_undo_37 rfl rfl k205 h2.1.ob rfl ?_)
      refine V.iret h hR dX4_undo_40 ?_
      exact ⟨rfl, ⟨σ, h2.1⟩, h1.2.tr h2.2⟩
    have K : V X 0 0 20 [some (.ref c)] [] (wset w c (.inr (4, ofl c (nI m)))) := by
      refine V.aload0 h 21 dX4_undo_20 rfl (V.gX4 h 0 24 dX4_undo_21 rfl rfl k200 h1.1.ob rfl (V.aload0 h 25 dX4_undo_24 rfl (V.gX4 h 4 28 dX4_undo_25 rfl rfl k204 h1.1.ob rfl (V.aload0 h 29 dX4_undo_28 rfl (V.gX4 h 5 32 dX4_undo_29 rfl rfl k205 h1.1.ob rfl (V.aaldN h 33 dX4_undo_32 rfl h1.1.hi (by omega) (by decide) ?_))))))
      refine V.callNfv (As := [.ref _]) (st := []) h 36 dX4_undo_33 rfl k234 k231 k233 ks1 k2 hd_X2_copyFrom ⟨(Nat.le_of_ble_eq_true rfl), (Nat.le_of_ble_eq_true rfl)⟩ (Nat.le_of_ble_eq_true rfl) h1.1.2.1.po rfl rfl ⟨Nat.zero_le _, Nat.zero_le _⟩ hcp rfl ?_
      exact K2
    refine V.aload0 h 1 dX4_undo_0 rfl (V.gX4 h 5 4 dX4_undo_1 rfl rfl k205 hC.ob rfl ?_)
    refine V.if_gt h 10 7 dX4_undo_4 rfl rfl (fun _ => ?_) (fun q => absurd (show (0 : Int32) < nI (m + 1) from show nI 0 < nI (m + 1) from nI_lt (by omega) (by omega)) q)
    refine V.aload0 h 11 dX4_undo_10 rfl (V.dup h 12 dX4_undo_11 rfl rfl (V.gX4 h 5 15 dX4_undo_12 rfl rfl k205 hC.ob rfl (V.iconst h 16 dX4_undo_15 rfl ic1_1 (V.isub h 17 dX4_undo_16 rfl ?_))))
    rw [nI_pred]
    refine V.sX4 h 5 20 dX4_undo_17 rfl rfl k205 rfl rfl rfl hC.ob rfl (V.at _ xq5 ?_)
    exact K
