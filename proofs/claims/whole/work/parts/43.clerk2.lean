/-! the class: what is taken back, what is called in -/
theorem and_pw0 {S : Int32} {k : Nat} (hk : k < 32) (h : Bt S k = false) : S &&& pw (nI k) = 0 := by rw [Int32.and_comm]; exact pw_and0 hk h
theorem and_pw1 {S : Int32} {k : Nat} (hk : k < 32) (h : Bt S k = true) : S &&& pw (nI k) = pw (nI k) := by rw [Int32.and_comm]; exact pw_and1 hk h
def cWdP (P : Pl) (k : Nat) : Pl := us (us P 6 (P 6 0 &&& (pw (nI k) ^^^ (-1)))) 15 (P 15 0 + 1)
def cWd (P : Pl) (x : Int32) : Int32 × Pl :=
  if hpl P x = true then (if Bt (P 7 0) x.toNatClampNeg = true then (-2, P) else (grt P noX (P 6 0) (P 7 0) &&& (grt (cWdP P x.toNatClampNeg) noX (cWdP P x.toNatClampNeg 6 0) (cWdP P x.toNatClampNeg 7 0) ^^^ (-1)), cWdP P x.toNatClampNeg)) else (-1, P)
theorem hpl_of {P : Pl} {x : Int32} (h : hpl P x = true) : ∃ k, k < 12 ∧ x = nI k ∧ Bt (live P) k = true := by
  unfold hpl at h
  rw [Bool.and_eq_true, Bool.and_eq_true] at h
  obtain ⟨k, hk, rfl⟩ := nI_of_lt (n := 12) (by decide) (le_n (of_decide_eq_true h.1)) (of_decide_eq_true h.2.1)
  exact ⟨k, hk, rfl, by rw [nI_tn (by omega)] at h; exact h.2.2⟩
theorem live_le {P P' : Pl} (h6 : sb (P' 6 0) (live P)) (h7 : sb (P' 7 0) (live P)) : sb (live P') (live P) := sb_or h6 h7
theorem POK_le {P P' : Pl} (hO : POK P) (hl : sb (live P') (live P)) (h : ∀ f, 8 ≤ f → f ≤ 12 → P' f = P f) : POK P' := by
  refine ⟨sb_lo hl hO.1, fun k hk hb => ?_⟩
  obtain ⟨h1, h2, h3⟩ := hO.2 k hk (hl k hb)
  rw [h 9 (by decide) (by decide), h 8 (by decide) (by decide)]
  exact ⟨h1, h2, cOKc_cg (by rw [h 11 (by decide) (by decide)]) (by rw [h 12 (by decide) (by decide)]) h3⟩
theorem cWdP_ok {P : Pl} {k : Nat} (hO : POK P) : POK (cWdP P k) := by
  refine POK_le hO (live_le (sb_and _ (sb_op P)) (sb_ca P)) fun f h8 h12 => ?_
  unfold cWdP us
  rw [if_neg (by omega), if_neg (by omega)]
theorem c_X0_takeBack {w : Wd} {c p j : Nat} {P : Pl} {f g : Nat → Int32} {v x : Int32} (hc : CK w c p j) (hO : POK P) : K_X0_takeBack [.ref c, .int x] (ct w p j P f g v) (RJ (cWd P x) w p j) := by
  refine Con.mk [some (.ref c), some (.int x), none, none] (by decide) rfl rfl (Nat.le_of_ble_eq_true rfl) (fun X h hR hnm => ?_)
  by_cases hx : hpl P x = true
  · obtain ⟨k, hk, rfl, -⟩ := hpl_of hx
    have e : cWd P (nI k) = (if Bt (P 7 0) k = true then (-2, P) else (grt P noX (P 6 0) (P 7 0) &&& (grt (cWdP P k) noX (cWdP P k 6 0) (cWdP P k 7 0) ^^^ (-1)), cWdP P k)) := by
      unfold cWd; rw [hx, if_pos rfl, nI_tn (by omega)]
    cases hb : Bt (P 7 0) k
    · rw [hb, if_neg Bool.false_ne_true] at e
      refine V.aload0 h 1 dX0_takeBack_0 rfl (V.gX0 h 0 4 dX0_takeBack_1 rfl rfl k145 (cto hc) rfl (V.iload1 h 5 dX0_takeBack_4 rfl (V.callNf (As := [.int _]) (st := []) h 8 dX0_takeBack_5 rfl k301 k310 k300 ks15 k2 hd_X2_hasPledge ⟨(Nat.le_of_ble_eq_true rfl), (Nat.le_of_ble_eq_true rfl)⟩ (Nat.le_of_ble_eq_true rfl) (ctP hc.2.2.2).po rfl rfl ⟨Nat.zero_le _, Nat.zero_le _⟩ (c_X2_hasPledge (ctP hc.2.2.2)) rfl ?_)))
      refine V.bif_ne h 13 11 dX0_takeBack_8 rfl rfl (fun _ => ?_) (fun q => absurd ((Eq.symm hx).trans q) (by decide))
      refine V.iconst h 14 dX0_takeBack_13 rfl ic1_1 (V.iload1 h 15 dX0_takeBack_14 rfl (V.ishl h 16 dX0_takeBack_15 rfl (V.istore2 h 17 dX0_takeBack_16 rfl rfl (V.aload0 h 18 dX0_takeBack_17 rfl (V.gX0 h 0 21 dX0_takeBack_18 rfl rfl k145 (cto hc) rfl (V.gX2N h 7 24 dX0_takeBack_21 rfl rfl k47 (ctP hc.2.2.2).po rfl (V.iload2 h 25 dX0_takeBack_24 rfl ?_)))))))
      refine V.iand h 26 dX0_takeBack_25 rfl ?_
      rw [show P 7 0 &&& (1 : Int32) <<< (nI k &&& 31) = 0 from and_pw0 (by omega) hb]
      refine V.if_eq h 32 29 dX0_takeBack_26 rfl rfl (fun _ => ?_) (fun q => absurd rfl q)
      refine V.aload0 h 33 dX0_takeBack_32 rfl (V.gX0 h 1 36 dX0_takeBack_33 rfl rfl k146 (cto hc) rfl (V.aload0 h 37 dX0_takeBack_36 rfl (V.gX0 h 0 40 dX0_takeBack_37 rfl rfl k145 (cto hc) rfl (V.gX2N h 6 43 dX0_takeBack_40 rfl rfl k43 (ctP hc.2.2.2).po rfl (V.aload0 h 44 dX0_takeBack_43 rfl (V.gX0 h 0 47 dX0_takeBack_44 rfl rfl k145 (cto hc) rfl (V.gX2N h 7 50 dX0_takeBack_47 rfl rfl k47 (ctP hc.2.2.2).po rfl ?_)))))))
      refine V.callNe (As := [.int _, .int _]) (st := []) h 53 dX0_takeBack_50 rfl k314 k311 k313 ks17 k3 hd_X1_greatest ⟨(Nat.le_of_ble_eq_true rfl), (Nat.le_of_ble_eq_true rfl)⟩ (Nat.le_of_ble_eq_true rfl) jto rfl rfl ⟨Nat.zero_le _, Nat.zero_le _⟩ (c_X1_greatest0 PlaceAt_ps hc.2.2.2 hO (sb_op P) (sb_ca P)) rfl (fun w50 hw50 => ?_)
      obtain ⟨f1, g1, v1, rfl⟩ := hw50
      refine V.istore3 h 54 dX0_takeBack_53 rfl rfl (V.aload0 h 55 dX0_takeBack_54 rfl (V.gX0 h 0 58 dX0_takeBack_55 rfl rfl k145 (cto hc) rfl (V.dup h 59 dX0_takeBack_58 rfl rfl (V.gX2N h 6 62 dX0_takeBack_59 rfl rfl k43 (ctP hc.2.2.2).po rfl (V.iload2 h 63 dX0_takeBack_62 rfl (V.iconst h 64 dX0_takeBack_63 rfl ic1_m1 (V.ixor h 65 dX0_takeBack_64 rfl ?_)))))))
      refine V.iand h 66 dX0_takeBack_65 rfl (V.sX2N h 6 69 dX0_takeBack_66 rfl rfl k43 rfl rfl rfl (ctP hc.2.2.2).po rfl (V.at _ (ctp6 hc) (V.aload0 h 70 dX0_takeBack_69 rfl (V.gX0 h 0 73 dX0_takeBack_70 rfl rfl k145 (cto hc) rfl (V.dup h 74 dX0_takeBack_73 rfl rfl (V.gX2N h 15 77 dX0_takeBack_74 rfl rfl k79 (ctP hc.2.2.2).po rfl (V.iconst h 78 dX0_takeBack_77 rfl ic1_1 ?_)))))))
      refine V.iadd h 79 dX0_takeBack_78 rfl (V.sX2N h 15 82 dX0_takeBack_79 rfl rfl k79 rfl rfl rfl (ctP hc.2.2.2).po rfl (V.at _ (ctp15 hc) ?_))
      refine V.at (ct w p j (cWdP P k) f1 g1 v1) rfl ?_
      refine V.iload3 h 83 dX0_takeBack_82 rfl (V.aload0 h 84 dX0_takeBack_83 rfl (V.gX0 h 1 87 dX0_takeBack_84 rfl rfl k146 (cto hc) rfl (V.aload0 h 88 dX0_takeBack_87 rfl (V.gX0 h 0 91 dX0_takeBack_88 rfl rfl k145 (cto hc) rfl (V.gX2N h 6 94 dX0_takeBack_91 rfl rfl k43 (ctP hc.2.2.2).po rfl (V.aload0 h 95 dX0_takeBack_94 rfl (V.gX0 h 0 98 dX0_takeBack_95 rfl rfl k145 (cto hc) rfl ?_)))))))
      refine V.gX2N h 7 101 dX0_takeBack_98 rfl rfl k47 (ctP hc.2.2.2).po rfl (V.callNe (As := [.int _, .int _]) (st := [.int _]) h 104 dX0_takeBack_101 rfl k314 k311 k313 ks17 k3 hd_X1_greatest ⟨(Nat.le_of_ble_eq_true rfl), (Nat.le_of_ble_eq_true rfl)⟩ (Nat.le_of_ble_eq_true rfl) jto rfl rfl ⟨Nat.zero_le _, Nat.zero_le _⟩ (c_X1_greatest0 PlaceAt_ps hc.2.2.2 (cWdP_ok hO) (sb_op _) (sb_ca _)) rfl (fun w101 hw101 => ?_))
      obtain ⟨f2, g2, v2, rfl⟩ := hw101
      refine V.iconst h 105 dX0_takeBack_104 rfl ic1_m1 (V.ixor h 106 dX0_takeBack_105 rfl (V.iand h 107 dX0_takeBack_106 rfl ?_))
      refine V.iret h hR dX0_takeBack_107 ?_
      exact RJ_of (by rw [e])
    · rw [hb, if_pos rfl] at e
      refine V.aload0 h 1 dX0_takeBack_0 rfl (V.gX0 h 0 4 dX0_takeBack_1 rfl rfl k145 (cto hc) rfl (V.iload1 h 5 dX0_takeBack_4 rfl (V.callNf (As := [.int _]) (st := []) h 8 dX0_takeBack_5 rfl k301 k310 k300 ks15 k2 hd_X2_hasPledge ⟨(Nat.le_of_ble_eq_true rfl), (Nat.le_of_ble_eq_true rfl)⟩ (Nat.le_of_ble_eq_true rfl) (ctP hc.2.2.2).po rfl rfl ⟨Nat.zero_le _, Nat.zero_le _⟩ (c_X2_hasPledge (ctP hc.2.2.2)) rfl ?_)))
      refine V.bif_ne h 13 11 dX0_takeBack_8 rfl rfl (fun _ => ?_) (fun q => absurd ((Eq.symm hx).trans q) (by decide))
      refine V.iconst h 14 dX0_takeBack_13 rfl ic1_1 (V.iload1 h 15 dX0_takeBack_14 rfl (V.ishl h 16 dX0_takeBack_15 rfl (V.istore2 h 17 dX0_takeBack_16 rfl rfl (V.aload0 h 18 dX0_takeBack_17 rfl (V.gX0 h 0 21 dX0_takeBack_18 rfl rfl k145 (cto hc) rfl (V.gX2N h 7 24 dX0_takeBack_21 rfl rfl k47 (ctP hc.2.2.2).po rfl (V.iload2 h 25 dX0_takeBack_24 rfl ?_)))))))
      refine V.iand h 26 dX0_takeBack_25 rfl ?_
      rw [show P 7 0 &&& (1 : Int32) <<< (nI k &&& 31) = pw (nI k) from and_pw1 (by omega) hb]
      refine V.if_eq h 32 29 dX0_takeBack_26 rfl rfl (fun q => absurd q (pw_ne (show k < 32 by omega))) (fun _ => ?_)
      refine V.bipush h 31 dX0_takeBack_29 rfl ic2_m2 ?_
      refine V.iret h hR dX0_takeBack_31 ?_
      exact RJ_of (by rw [e])
  · have hx : hpl P x = false := by simpa using hx
    refine V.aload0 h 1 dX0_takeBack_0 rfl (V.gX0 h 0 4 dX0_takeBack_1 rfl rfl k145 (cto hc) rfl (V.iload1 h 5 dX0_takeBack_4 rfl (V.callNf (As := [.int _]) (st := []) h 8 dX0_takeBack_5 rfl k301 k310 k300 ks15 k2 hd_X2_hasPledge ⟨(Nat.le_of_ble_eq_true rfl), (Nat.le_of_ble_eq_true rfl)⟩ (Nat.le_of_ble_eq_true rfl) (ctP hc.2.2.2).po rfl rfl ⟨Nat.zero_le _, Nat.zero_le _⟩ (c_X2_hasPledge (ctP hc.2.2.2)) rfl ?_)))
    refine V.bif_ne h 13 11 dX0_takeBack_8 rfl rfl (fun q => absurd ((Eq.symm hx).trans q) (by decide)) (fun _ => ?_)
    refine V.iconst h 12 dX0_takeBack_11 rfl ic1_m1 ?_
    refine V.iret h hR dX0_takeBack_12 ?_
    exact RJ_of (by unfold cWd; rw [hx]; rfl)
def cCoT (P : Pl) (x : Int32) : Int32 := forP P x &&& grt P noX (P 6 0) (P 7 0)
def cPay (P : Pl) (T : Int32) (n : Nat) : Pl := ua (ua P 4 (fun i => if i < n then P 4 i - amt P (T &&& ofP P (nI i)) else P 4 i)) 5 (fun i => if i < n then P 5 i + amt P (T &&& ofP P (nI i)) else P 5 i)
def cFin (P : Pl) (x : Int32) : Pl := us (us (us (us (cPay P (cCoT P x) 8) 6 (P 6 0 &&& (forP P x ^^^ (-1)))) 7 (P 7 0 ||| cCoT P x)) 2 (P 2 0 ||| pw x)) 16 (P 16 0 + amt P (cCoT P x))
def cCo (P : Pl) (x : Int32) : Int32 × Pl := if hpj P x = true then (if (Bt (P 2 0) x.toNatClampNeg || decide (amt P (cCoT P x) < P 1 x.toNatClampNeg)) = true then (-2, P) else (amt P (cCoT P x), cFin P x)) else (-1, P)
theorem cPay_0 {P : Pl} {T : Int32} : cPay P T 0 = P := by
  unfold cPay
  simp only [Nat.not_lt_zero, if_false]
  show ua (ua P 4 (P 4)) 5 (P 5) = P
  rw [ua_id, ua_id]
theorem cPay_s {P : Pl} {T : Int32} {n : Nat} : ua (ua (cPay P T n) 4 (upd (cPay P T n 4) n (cPay P T n 4 n - amt P (T &&& ofP P (nI n))))) 5 (upd (cPay P T n 5) n (cPay P T n 5 n + amt P (T &&& ofP P (nI n)))) = cPay P T (n + 1) := by
  have e : ∀ (A B : Nat → Int32) (o : Int32 → Int32 → Int32), upd (fun i => if i < n then o (A i) (amt P (T &&& ofP P (nI i))) else A i) n (o (A n) (amt P (T &&& ofP P (nI n)))) = (fun i => if i < n + 1 then o (A i) (amt P (T &&& ofP P (nI i))) else A i) := by
    intro A B o
    funext i
    unfold upd
    by_cases h : i = n
    · subst h; rw [if_pos rfl, if_pos (by omega)]
    · rw [if_neg h]
      dsimp only
      by_cases h2 : i < n
      · rw [if_pos h2, if_pos (by omega)]
      · rw [if_neg h2, if_neg (by omega)]
  have e4 : cPay P T n 4 n = P 4 n := by show (if n < n then _ else _) = _; rw [if_neg (by omega)]
  have e5 : cPay P T n 5 n = P 5 n := by show (if n < n then _ else _) = _; rw [if_neg (by omega)]
  rw [e4, e5]
  show ua (ua (ua (ua P 4 _) 5 _) 4 (upd (fun i => if i < n then P 4 i - amt P (T &&& ofP P (nI i)) else P 4 i) n _)) 5 (upd (fun i => if i < n then P 5 i + amt P (T &&& ofP P (nI i)) else P 5 i) n _) = _
  rw [e (P 4) (P 4) (fun a b => a - b), e (P 5) (P 5) (fun a b => a + b), ua_comm _ _ _ (show 5 ≠ 4 by decide), ua_ua, ua_ua]
  rfl
theorem c_X0_collect {w : Wd} {c p j np : Nat} {P : Pl} {f g : Nat → Int32} {v x : Int32} (hc : CK w c p j) (hn : P 0 0 = nI np) (h4 : np ≤ 4) (hO : POK P) : K_X0_collect [.ref c, .int x] (ct w p j P f g v) (RJ (cCo P x) w p j) := by
  refine Con.mk [some (.ref c), some (.int x), none, none, none, none, none] (by decide) rfl rfl (Nat.le_of_ble_eq_true rfl) (fun X h hR hnm => ?_)
  by_cases hx : hpj P x = true
  · obtain ⟨t, ht, rfl⟩ := rng_pred (n := np) (by omega) (by rw [← hn, ← hpj_rng hn (by omega)]; exact hx)
    have e : cCo P (nI t) = (if (Bt (P 2 0) t || decide (amt P (cCoT P (nI t)) < P 1 t)) = true then (-2, P) else (amt P (cCoT P (nI t)), cFin P (nI t))) := by
      unfold cCo; rw [hx, if_pos rfl, nI_tn (by omega)]
    have L : ∀ (f g : Nat → Int32) (v : Int32), (Bt (P 2 0) t || decide (amt P (cCoT P (nI t)) < P 1 t)) = false → ∀ (d n : Nat) (u : Option Value), n + d = 8 → V X 0 0 87 [some (.ref c), some (.int (nI t)), some (.int (forP P (nI t))), some (.int (cCoT P (nI t))), some (.int (amt P (cCoT P (nI t)))), some (.int (nI n)), u] [] (ct w p j (cPay P (cCoT P (nI t)) n) f g v) := by
      intro f g v hno d
      induction d with
      | zero =>
        intro n u hnd
        obtain rfl : n = 8 := by omega
        refine V.iload5 h 89 dX0_collect_87 rfl (V.bipush h 91 dX0_collect_89 rfl ic2_8 ?_)
        refine V.icmp_ge h 150 94 dX0_collect_91 rfl rfl (fun _ => ?_) (fun q => absurd (lp_out (n := 8)) q)
        refine V.aload0 h 151 dX0_collect_150 rfl (V.gX0 h 0 154 dX0_collect_151 rfl rfl k145 (cto hc) rfl (V.dup h 155 dX0_collect_154 rfl rfl (V.gX2N h 6 158 dX0_collect_155 rfl rfl k43 (ctP hc.2.2.2).po rfl (V.iload2 h 159 dX0_collect_158 rfl (V.iconst h 160 dX0_collect_159 rfl ic1_m1 (V.ixor h 161 dX0_collect_160 rfl (V.iand h 162 dX0_collect_161 rfl ?_)))))))
        refine V.sX2N h 6 165 dX0_collect_162 rfl rfl k43 rfl rfl rfl (ctP hc.2.2.2).po rfl (V.at _ (ctp6 hc) (V.aload0 h 166 dX0_collect_165 rfl (V.gX0 h 0 169 dX0_collect_166 rfl rfl k145 (cto hc) rfl (V.dup h 170 dX0_collect_169 rfl rfl (V.gX2N h 7 173 dX0_collect_170 rfl rfl k47 (ctP hc.2.2.2).po rfl (V.iload3 h 174 dX0_collect_173 rfl (V.ior h 175 dX0_collect_174 rfl ?_)))))))
        refine V.sX2N h 7 178 dX0_collect_175 rfl rfl k47 rfl rfl rfl (ctP hc.2.2.2).po rfl (V.at _ (ctp7 hc) (V.aload0 h 179 dX0_collect_178 rfl (V.gX0 h 0 182 dX0_collect_179 rfl rfl k145 (cto hc) rfl (V.dup h 183 dX0_collect_182 rfl rfl (V.gX2N h 2 186 dX0_collect_183 rfl rfl k31 (ctP hc.2.2.2).po rfl (V.iconst h 187 dX0_collect_186 rfl ic1_1 (V.iload1 h 188 dX0_collect_187 rfl ?_)))))))
        refine V.ishl h 189 dX0_collect_188 rfl (V.ior h 190 dX0_collect_189 rfl (V.sX2N h 2 193 dX0_collect_190 rfl rfl k31 rfl rfl rfl (ctP hc.2.2.2).po rfl (V.at _ (ctp2 hc) (V.aload0 h 194 dX0_collect_193 rfl (V.gX0 h 0 197 dX0_collect_194 rfl rfl k145 (cto hc) rfl (V.dup h 198 dX0_collect_197 rfl rfl (V.gX2N h 16 201 dX0_collect_198 rfl rfl k82 (ctP hc.2.2.2).po rfl ?_)))))))
        refine V.iload4 h 203 dX0_collect_201 rfl (V.iadd h 204 dX0_collect_203 rfl (V.sX2N h 16 207 dX0_collect_204 rfl rfl k82 rfl rfl rfl (ctP hc.2.2.2).po rfl (V.at _ (ctp16 hc) (V.iload4 h 209 dX0_collect_207 rfl ?_))))
        refine V.iret h hR dX0_collect_209 ?_
        exact RJ_of (by rw [e, hno]; rfl)
      | succ d ih =>
        intro n u hnd
        refine V.iload5 h 89 dX0_collect_87 rfl (V.bipush h 91 dX0_collect_89 rfl ic2_8 ?_)
        refine V.icmp_ge h 150 94 dX0_collect_91 rfl rfl (fun q => absurd q (lp_in (n := 8) (by omega))) (fun _ => ?_)
        refine V.aload0 h 95 dX0_collect_94 rfl (V.gX0 h 0 98 dX0_collect_95 rfl rfl k145 (cto hc) rfl (V.iload3 h 99 dX0_collect_98 rfl (V.aload0 h 100 dX0_collect_99 rfl (V.gX0 h 0 103 dX0_collect_100 rfl rfl k145 (cto hc) rfl (V.iload5 h 105 dX0_collect_103 rfl (V.callNf (As := [.int _]) (st := [.int _, .ref _]) h 108 dX0_collect_105 rfl k281 k278 k280 ks10 k2 hd_X2_pledgesOf ⟨(Nat.le_of_ble_eq_true rfl), (Nat.le_of_ble_eq_true rfl)⟩ (Nat.le_of_ble_eq_true rfl) (ctP hc.2.2.2).po rfl rfl ⟨Nat.zero_le _, Nat.zero_le _⟩ (c_X2_pledgesOf (ctP hc.2.2.2)) rfl (V.iand h 109 dX0_collect_108 rfl ?_)))))))
        refine V.callNf (As := [.int _]) (st := []) h 112 dX0_collect_109 rfl k289 k286 k288 ks12 k2 hd_X2_sum ⟨(Nat.le_of_ble_eq_true rfl), (Nat.le_of_ble_eq_true rfl)⟩ (Nat.le_of_ble_eq_true rfl) (ctP hc.2.2.2).po rfl rfl ⟨Nat.zero_le _, Nat.zero_le _⟩ (c_X2_sum (ctP hc.2.2.2)) rfl ?_
        rw [show amt (cPay P (cCoT P (nI t)) n) (cCoT P (nI t) &&& ofP (cPay P (cCoT P (nI t)) n) (nI n)) = amt P (cCoT P (nI t) &&& ofP P (nI n)) from rfl]
        refine V.istore6 h 114 dX0_collect_112 rfl rfl (V.aload0 h 115 dX0_collect_114 rfl (V.gX0 h 0 118 dX0_collect_115 rfl rfl k145 (cto hc) rfl (V.gX2N h 4 121 dX0_collect_118 rfl rfl k37 (ctP hc.2.2.2).po rfl (V.iload5 h 123 dX0_collect_121 rfl (V.dup2 h 124 dX0_collect_123 rfl rfl rfl (V.ialdN h 125 dX0_collect_124 rfl (ctP hc.2.2.2).pa2 (by omega) (by decide) (V.iload6 h 127 dX0_collect_125 rfl ?_)))))))
        refine V.isub h 128 dX0_collect_127 rfl (V.iastN h 129 dX0_collect_128 rfl (ctP hc.2.2.2).pa2 (by omega) (by decide) (V.at _ (ctw2 hc) (V.aload0 h 130 dX0_collect_129 rfl (V.gX0 h 0 133 dX0_collect_130 rfl rfl k145 (cto hc) rfl (V.gX2N h 5 136 dX0_collect_133 rfl rfl k40 (ctP hc.2.2.2).po rfl (V.iload5 h 138 dX0_collect_136 rfl (V.dup2 h 139 dX0_collect_138 rfl rfl rfl ?_)))))))
        refine V.ialdN h 140 dX0_collect_139 rfl (ctP hc.2.2.2).pa3 (by omega) (by decide) (V.iload6 h 142 dX0_collect_140 rfl (V.iadd h 143 dX0_collect_142 rfl (V.iastN h 144 dX0_collect_143 rfl (ctP hc.2.2.2).pa3 (by omega) (by decide) (V.at _ (ctw3 hc) (V.incN5 h 147 dX0_collect_144 rfl rfl (V.goto h 87 dX0_collect_147 rfl ?_))))))
        refine V.at (ct w p j (cPay P (cCoT P (nI t)) (n + 1)) f g v) (congrArg (fun Z => ct w p j Z f g v) cPay_s) ?_
        exact ih (n + 1) _ (by omega)
    refine V.aload0 h 1 dX0_collect_0 rfl (V.gX0 h 0 4 dX0_collect_1 rfl rfl k145 (cto hc) rfl (V.iload1 h 5 dX0_collect_4 rfl (V.callNf (As := [.int _]) (st := []) h 8 dX0_collect_5 rfl k273 k270 k272 ks8 k2 hd_X2_hasProject ⟨(Nat.le_of_ble_eq_true rfl), (Nat.le_of_ble_eq_true rfl)⟩ (Nat.le_of_ble_eq_true rfl) (ctP hc.2.2.2).po rfl rfl ⟨Nat.zero_le _, Nat.zero_le _⟩ (c_X2_hasProject (ctP hc.2.2.2)) rfl ?_)))
    refine V.bif_ne h 13 11 dX0_collect_8 rfl rfl (fun _ => ?_) (fun q => absurd ((Eq.symm hx).trans q) (by decide))
    refine V.aload0 h 14 dX0_collect_13 rfl (V.gX0 h 0 17 dX0_collect_14 rfl rfl k145 (cto hc) rfl (V.iload1 h 18 dX0_collect_17 rfl (V.callNf (As := [.int _]) (st := []) h 21 dX0_collect_18 rfl k338 k335 k337 ks22 k2 hd_X2_pledgesFor ⟨(Nat.le_of_ble_eq_true rfl), (Nat.le_of_ble_eq_true rfl)⟩ (Nat.le_of_ble_eq_true rfl) (ctP hc.2.2.2).po rfl rfl ⟨Nat.zero_le _, Nat.zero_le _⟩ (c_X2_pledgesFor (ctP hc.2.2.2)) rfl (V.istore2 h 22 dX0_collect_21 rfl rfl (V.iload2 h 23 dX0_collect_22 rfl (V.aload0 h 24 dX0_collect_23 rfl (V.gX0 h 1 27 dX0_collect_24 rfl rfl k146 (cto hc) rfl ?_)))))))
    refine V.aload0 h 28 dX0_collect_27 rfl (V.gX0 h 0 31 dX0_collect_28 rfl rfl k145 (cto hc) rfl (V.gX2N h 6 34 dX0_collect_31 rfl rfl k43 (ctP hc.2.2.2).po rfl (V.aload0 h 35 dX0_collect_34 rfl (V.gX0 h 0 38 dX0_collect_35 rfl rfl k145 (cto hc) rfl (V.gX2N h 7 41 dX0_collect_38 rfl rfl k47 (ctP hc.2.2.2).po rfl (V.callNe (As := [.int _, .int _]) (st := [.int _]) h 44 dX0_collect_41 rfl k314 k311 k313 ks17 k3 hd_X1_greatest ⟨(Nat.le_of_ble_eq_true rfl), (Nat.le_of_ble_eq_true rfl)⟩ (Nat.le_of_ble_eq_true rfl) jto rfl rfl ⟨Nat.zero_le _, Nat.zero_le _⟩ (c_X1_greatest0 PlaceAt_ps hc.2.2.2 hO (sb_op P) (sb_ca P)) rfl (fun w41 hw41 => ?_)))))))
    obtain ⟨f1, g1, v1, rfl⟩ := hw41
    refine V.iand h 45 dX0_collect_44 rfl ?_
    rw [show forP P (nI t) &&& grt P noX (P 6 0) (P 7 0) = cCoT P (nI t) from rfl]
    refine V.istore3 h 46 dX0_collect_45 rfl rfl (V.aload0 h 47 dX0_collect_46 rfl (V.gX0 h 0 50 dX0_collect_47 rfl rfl k145 (cto hc) rfl (V.iload3 h 51 dX0_collect_50 rfl (V.callNf (As := [.int _]) (st := []) h 54 dX0_collect_51 rfl k289 k286 k288 ks12 k2 hd_X2_sum ⟨(Nat.le_of_ble_eq_true rfl), (Nat.le_of_ble_eq_true rfl)⟩ (Nat.le_of_ble_eq_true rfl) (ctP hc.2.2.2).po rfl rfl ⟨Nat.zero_le _, Nat.zero_le _⟩ (c_X2_sum (ctP hc.2.2.2)) rfl (V.istore4 h 56 dX0_collect_54 rfl rfl (V.aload0 h 57 dX0_collect_56 rfl (V.gX0 h 0 60 dX0_collect_57 rfl rfl k145 (cto hc) rfl ?_)))))))
    refine V.iload1 h 61 dX0_collect_60 rfl (V.callNf (As := [.int _]) (st := []) h 64 dX0_collect_61 rfl k293 k290 k292 ks13 k2 hd_X2_isClosed ⟨(Nat.le_of_ble_eq_true rfl), (Nat.le_of_ble_eq_true rfl)⟩ (Nat.le_of_ble_eq_true rfl) (ctP hc.2.2.2).po rfl rfl ⟨Nat.zero_le _, Nat.zero_le _⟩ (c_X2_isClosed (ctP hc.2.2.2) (by omega)) rfl ?_)
    refine V.bif_ne h 81 67 dX0_collect_64 rfl rfl (fun c64 => ?_) (fun c64 => ?_)
    · refine V.bipush h 83 dX0_collect_81 rfl ic2_m2 ?_
      refine V.iret h hR dX0_collect_83 ?_
      first | exact RJ_of (by rw [e, c64]; rfl) | exact RJ_of (by rw [e, decide_eq_true (nle c78), Bool.or_true]; rfl)
    · refine V.iload4 h 69 dX0_collect_67 rfl (V.aload0 h 70 dX0_collect_69 rfl (V.gX0 h 0 73 dX0_collect_70 rfl rfl k145 (cto hc) rfl (V.gX2N h 1 76 dX0_collect_73 rfl rfl k27 (ctP hc.2.2.2).po rfl (V.iload1 h 77 dX0_collect_76 rfl (V.ialdN h 78 dX0_collect_77 rfl (ctP hc.2.2.2).pa1 (by omega) (by decide) ?_)))))
      refine V.icmp_ge h 84 81 dX0_collect_78 rfl rfl (fun c78 => ?_) (fun c78 => ?_)
      · refine V.iconst h 85 dX0_collect_84 rfl ic1_0 (V.istore5 h 87 dX0_collect_85 rfl rfl ?_)
        have l := L f1 g1 v1 (by rw [c64, decide_eq_false (le_n c78)]; rfl) 8 0 none rfl
        rw [cPay_0] at l
        exact l
      · refine V.bipush h 83 dX0_collect_81 rfl ic2_m2 ?_
        refine V.iret h hR dX0_collect_83 ?_
        first | exact RJ_of (by rw [e, c64]; rfl) | exact RJ_of (by rw [e, decide_eq_true (nle c78), Bool.or_true]; rfl)
  · have hx : hpj P x = false := by simpa using hx
    refine V.aload0 h 1 dX0_collect_0 rfl (V.gX0 h 0 4 dX0_collect_1 rfl rfl k145 (cto hc) rfl (V.iload1 h 5 dX0_collect_4 rfl (V.callNf (As := [.int _]) (st := []) h 8 dX0_collect_5 rfl k273 k270 k272 ks8 k2 hd_X2_hasProject ⟨(Nat.le_of_ble_eq_true rfl), (Nat.le_of_ble_eq_true rfl)⟩ (Nat.le_of_ble_eq_true rfl) (ctP hc.2.2.2).po rfl rfl ⟨Nat.zero_le _, Nat.zero_le _⟩ (c_X2_hasProject (ctP hc.2.2.2)) rfl ?_)))
    refine V.bif_ne h 13 11 dX0_collect_8 rfl rfl (fun q => absurd ((Eq.symm hx).trans q) (by decide)) (fun _ => ?_)
    refine V.iconst h 12 dX0_collect_11 rfl ic1_m1 ?_
    refine V.iret h hR dX0_collect_12 ?_
    exact RJ_of (by unfold cCo; rw [hx]; rfl)
