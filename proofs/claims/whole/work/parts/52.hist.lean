/-! the class: all its cells, the history -/
abbrev plcs (f : Nat → Option Nat) : Ce := .inl (3, 5, .inr (.inr (.inr (.inr f))))
theorem RA.ag {u w : Wd} {b n lo hi : Nat} {C : Nat → Ce} (h : RA w b n C) (ha : ∀ q, q < lo ∨ hi ≤ q → u.2 q = w.2 q) (hd : b + n ≤ lo ∨ hi ≤ b) : RA u b n C := fun k hk => by rw [ha _ (by omega)]; exact h k hk
/-- nothing but the class's cells differs -/
def Fr (c : Nat) (w u : Wd) : Prop := u.1 = w.1 ∧ ∀ q, q < c ∨ c + 84 ≤ q → u.2 q = w.2 q
theorem Fr.rf {c : Nat} {w : Wd} : Fr c w w := ⟨rfl, fun _ _ => rfl⟩
theorem Fr.tr {c : Nat} {w u t : Wd} (h : Fr c w u) (h' : Fr c u t) : Fr c w t := ⟨h'.1.trans h.1, fun q hq => (h'.2 q hq).trans (h.2 q hq)⟩
def sA (c : Nat) (σ : Nat → Nat) (i : Nat) : Nat := c + 33 + 10 * σ i
def CI (w : Wd) (c n : Nat) (P S : Pl) (σ : Nat → Nat) (H : Nat → Pl) : Prop :=
  OB w c (nI n) ∧ PlaceAt w (c + 1) P ∧ (∃ f g v, RA w (c + 11) 3 (jcl (c + 1) (c + 11) (jr f g v))) ∧ w.2 (c + 14) = some (.inr (0, [.ref (c + 1), .ref (c + 11)])) ∧
  RA w (c + 15) 3 (scl (c + 15) S) ∧ (∃ Px, PlaceAt w (c + 15 + 3) Px) ∧ XK w (c + 15) ∧ (∃ f g v, RA w (c + 15 + 14) 3 (jcl (c + 15 + 3) (c + 15 + 14) (jr f g v))) ∧
  w.2 (c + 32) = some (plcs (fun i => some (sA c σ i))) ∧ (∀ i, i < 5 → PlaceAt w (sA c σ i) (H i)) ∧ (∀ i, i < 5 → σ i < 5) ∧ (∀ i j, i < 5 → j < 5 → σ i = σ j → i = j) ∧ ∃ K, w.2 (c + 83) = some (lngs 12 K)
section CIs
variable {w u : Wd} {c n : Nat} {P S : Pl} {σ : Nat → Nat} {H : Nat → Pl}
theorem CI.ob (h : CI w c n P S σ H) : OB w c (nI n) := h.1
theorem CI.ck (h : CI w c n P S σ H) : CK w (c + 14) (c + 1) (c + 11) := ⟨h.2.2.2.1, by omega, by omega, by omega⟩
theorem CI.so (h : CI w c n P S σ H) : w.2 (c + 15) = some (.inr (3, sfl (c + 15) S)) := h.2.2.2.2.1 0 (by decide)
theorem CI.hi (h : CI w c n P S σ H) : w.2 (c + 32) = some (plcs (fun i => some (sA c σ i))) := h.2.2.2.2.2.2.2.2.1
theorem CI.hp (h : CI w c n P S σ H) {i : Nat} (hi : i < 5) : PlaceAt w (sA c σ i) (H i) := h.2.2.2.2.2.2.2.2.2.1 i hi
theorem CI.sg (h : CI w c n P S σ H) {i : Nat} (hi : i < 5) : σ i < 5 := h.2.2.2.2.2.2.2.2.2.2.1 i hi
theorem CI.id (h : CI w c n P S σ H) : ∃ f g v, w = ct w (c + 1) (c + 11) P f g v := by
  obtain ⟨h1, h2, ⟨f, g, v, h3⟩, -⟩ := h
  refine ⟨f, g, v, ?_⟩
  show w = rs (rs w (c + 1) 10 _) (c + 11) 3 _
  rw [RA.id h2, RA.id h3]
theorem CI.idk (h : CI w c n P S σ H) : ∃ f g v K, w = kt w c P f g v K := by
  obtain ⟨f, g, v, e⟩ := h.id
  obtain ⟨K, hK⟩ := h.2.2.2.2.2.2.2.2.2.2.2.2
  refine ⟨f, g, v, K, ?_⟩
  have e2 : kw w c K = w := by
    refine wd_ext rfl fun q => ?_
    unfold kw
    by_cases h : q = c + 83
    · subst h; rw [wset_self, hK]
    · rw [wset_ne h]
  show w = ct (kw w c K) (c + 1) (c + 11) P f g v
  rw [e2]; exact e
theorem CI.idx (h : CI w c n P S σ H) : ∃ Px f g v, w = xs w (c + 15) Px f g v S := by
  obtain ⟨-, -, -, -, h5, ⟨Px, h6⟩, -, ⟨f, g, v, h8⟩, -⟩ := h
  refine ⟨Px, f, g, v, ?_⟩
  show w = rs (rs (rs w (c + 15) 3 _) (c + 15 + 3) 10 _) (c + 15 + 14) 3 _
  rw [RA.id h5, RA.id h6, RA.id h8]
theorem CI.idp (h : CI w c n P S σ H) : w = ps w (c + 1) P := (RA.id h.2.1).symm
theorem CI.idh (h : CI w c n P S σ H) {k : Nat} (hk : k < 5) : w = ps w (sA c σ k) (H k) := (RA.id (h.hp hk)).symm
theorem ct_ag {p j : Nat} {f g : Nat → Int32} {v : Int32} (hj : j = p + 10) : ∀ q, q < p ∨ p + 13 ≤ q → (ct w p j P f g v).2 q = w.2 q := fun q hq => by
  show (rs (rs w p 10 _) j 3 _).2 q = _
  rw [rs_out (by omega), rs_out (by omega)]
theorem CI.ct {P' : Pl} {f g : Nat → Int32} {v : Int32} (h : CI w c n P S σ H) : CI (ct w (c + 1) (c + 11) P' f g v) c n P' S σ H ∧ Fr c w (ct w (c + 1) (c + 11) P' f g v) := by
  obtain ⟨h1, h2, h3, h4, h5, ⟨Px, h6⟩, h7, ⟨f', g', v', h8⟩, h9, h10, h11, h12, ⟨K, h13⟩⟩ := h
  have ha := ct_ag (w := w) (P := P') (f := f) (g := g) (v := v) (p := c + 1) (j := c + 11) rfl
  have hsa : ∀ i, sA c σ i = c + 33 + 10 * σ i := fun i => rfl
  refine ⟨⟨_root_.Jvm.Pilot.CPledgeTipsLaw_law_r3089_549eb5.ob h1, ctP hd4, ⟨f, g, v, RA_rs⟩, (ha _ (by omega)).trans h4, h5.ag ha (by omega), ⟨Px, h6.ag ha (by omega)⟩, (ha _ (by omega)).trans h7, ⟨f', g', v', h8.ag ha (by omega)⟩, (ha _ (by omega)).trans h9, fun i hi => (h10 i hi).ag ha (by have := hsa i; omega), h11, h12, ⟨K, (ha _ (by omega)).trans h13⟩⟩, rfl, fun q hq => ha q (by omega)⟩
theorem CI.kt {P' : Pl} {f g : Nat → Int32} {v : Int32} {K' : Nat → Int64} (h : CI w c n P S σ H) : CI (kt w c P' f g v K') c n P' S σ H ∧ Fr c w (kt w c P' f g v K') := by
  have ha : ∀ q, q < c + 83 ∨ c + 84 ≤ q → (kw w c K').2 q = w.2 q := fun q hq => wset_ne (by omega)
  have h' : CI (kw w c K') c n P S σ H := by
    obtain ⟨h1, h2, ⟨f, g, v, h3⟩, h4, h5, ⟨Px, h6⟩, h7, ⟨f', g', v', h8⟩, h9, h10, h11, h12, ⟨K, h13⟩⟩ := h
    have hsa : ∀ i, sA c σ i = c + 33 + 10 * σ i := fun i => rfl
    exact ⟨(ha _ (by omega)).trans h1, h2.ag ha (by omega), ⟨f, g, v, h3.ag ha (by omega)⟩, (ha _ (by omega)).trans h4, h5.ag ha (by omega), ⟨Px, h6.ag ha (by omega)⟩, (ha _ (by omega)).trans h7, ⟨f', g', v', h8.ag ha (by omega)⟩, (ha _ (by omega)).trans h9, fun i hi => (h10 i hi).ag ha (by have := hsa i; have := h11 i hi; omega), h11, h12, ⟨K', wset_self _ _ _⟩⟩
  obtain ⟨h2, h3⟩ := h'.ct (P' := P') (f := f) (g := g) (v := v)
  exact ⟨h2, Fr.tr (show Fr c w (kw w c K') from ⟨rfl, fun q hq => ha q (by omega)⟩) h3⟩
theorem CI.xs {Px S' : Pl} {f g : Nat → Int32} {v : Int32} (h : CI w c n P S σ H) : CI (xs w (c + 15) Px f g v S') c n P S' σ H ∧ Fr c w (xs w (c + 15) Px f g v S') := by
  obtain ⟨h1, h2, ⟨f', g', v', h3⟩, h4, h5, ⟨Px', h6⟩, h7, ⟨f'', g'', v'', h8⟩, h9, h10, h11, h12, ⟨K, h13⟩⟩ := h
  have ha : ∀ q, (q < c + 15 ∨ c + 32 ≤ q) ∨ q = c + 28 → (_root_.Jvm.Pilot.CPledgeTipsLaw_law_r3089_549eb5.xs w (c + 15) Px f g v S').2 q = w.2 q := fun q hq => by
    show (rs (rs (rs w (c + 15) 3 _) (c + 15 + 3) 10 _) (c + 15 + 14) 3 _).2 q = _
    rw [rs_out (by omega), rs_out (by omega), rs_out (by omega)]
  have hb : ∀ q, q < c + 15 ∨ c + 32 ≤ q → (_root_.Jvm.Pilot.CPledgeTipsLaw_law_r3089_549eb5.xs w (c + 15) Px f g v S').2 q = w.2 q := fun q hq => ha q (Or.inl hq)
  have hsa : ∀ i, sA c σ i = c + 33 + 10 * σ i := fun i => rfl
  have h5' : RA (_root_.Jvm.Pilot.CPledgeTipsLaw_law_r3089_549eb5.xs w (c + 15) Px f g v S') (c + 15) 3 (scl (c + 15) S') := by
    intro k hk
    rw [xs_lo (by omega)]
    exact rs_in hk
  refine ⟨⟨(hb _ (by omega)).trans h1, h2.ag hb (by omega), ⟨f', g', v', h3.ag hb (by omega)⟩, (hb _ (by omega)).trans h4, h5', ⟨Px, xP⟩, (ha _ (Or.inr rfl)).trans h7, ⟨f, g, v, RA_rs⟩, (hb _ (by omega)).trans h9, fun i hi => (h10 i hi).ag hb (by have := hsa i; omega), h11, h12, ⟨K, (hb _ (by omega)).trans h13⟩⟩, rfl, fun q hq => hb q (by omega)⟩
theorem CI.now {Q : Pl} (h : CI w c n P S σ H) : CI (ps w (c + 1) Q) c n Q S σ H ∧ Fr c w (ps w (c + 1) Q) := by
  obtain ⟨h1, h2, ⟨f', g', v', h3⟩, h4, h5, ⟨Px', h6⟩, h7, ⟨f'', g'', v'', h8⟩, h9, h10, h11, h12, ⟨K, h13⟩⟩ := h
  have ha : ∀ q, q < c + 1 ∨ c + 11 ≤ q → (ps w (c + 1) Q).2 q = w.2 q := fun q hq => rs_out (by omega)
  have hsa : ∀ i, sA c σ i = c + 33 + 10 * σ i := fun i => rfl
  exact ⟨⟨(ha _ (by omega)).trans h1, PlaceAt_ps, ⟨f', g', v', h3.ag ha (by omega)⟩, (ha _ (by omega)).trans h4, h5.ag ha (by omega), ⟨Px', h6.ag ha (by omega)⟩, (ha _ (by omega)).trans h7, ⟨f'', g'', v'', h8.ag ha (by omega)⟩, (ha _ (by omega)).trans h9, fun i hi => (h10 i hi).ag ha (by have := hsa i; omega), h11, h12, ⟨K, (ha _ (by omega)).trans h13⟩⟩, rfl, fun q hq => ha q (by omega)⟩
def uH (H : Nat → Pl) (k : Nat) (Q : Pl) : Nat → Pl := fun i => if i = k then Q else H i
theorem CI.his {Q : Pl} {k : Nat} (hk : k < 5) (h : CI w c n P S σ H) : CI (ps w (sA c σ k) Q) c n P S σ (uH H k Q) ∧ Fr c w (ps w (sA c σ k) Q) := by
  obtain ⟨h1, h2, ⟨f', g', v', h3⟩, h4, h5, ⟨Px', h6⟩, h7, ⟨f'', g'', v'', h8⟩, h9, h10, h11, h12, ⟨K, h13⟩⟩ := h
  have ha : ∀ q, q < sA c σ k ∨ sA c σ k + 10 ≤ q → (ps w (sA c σ k) Q).2 q = w.2 q := fun q hq => rs_out (by omega)
  have hsa : ∀ i, sA c σ i = c + 33 + 10 * σ i := fun i => rfl
  have hsk := hsa k
  have hk5 := h11 k hk
  refine ⟨⟨(ha _ (by omega)).trans h1, h2.ag ha (by omega), ⟨f', g', v', h3.ag ha (by omega)⟩, (ha _ (by omega)).trans h4, h5.ag ha (by omega), ⟨Px', h6.ag ha (by omega)⟩, (ha _ (by omega)).trans h7, ⟨f'', g'', v'', h8.ag ha (by omega)⟩, (ha _ (by omega)).trans h9, fun i hi => ?_, h11, h12, ⟨K, (ha _ (by omega)).trans h13⟩⟩, rfl, fun q hq => ha q (by omega)⟩
  unfold uH
  by_cases e : i = k
  · rw [if_pos e, e]; exact PlaceAt_ps
  · rw [if_neg e]
    refine (h10 i hi).ag ha ?_
    have h0 : σ i ≠ σ k := fun q => e (h12 i k hi hk q)
    have := hsa i
    omega
theorem CI.set {m : Nat} (h : CI w c n P S σ H) : CI (wset w c (.inr (4, ofl c (nI m)))) c m P S σ H ∧ Fr c w (wset w c (.inr (4, ofl c (nI m)))) := by
  obtain ⟨h1, h2, ⟨f', g', v', h3⟩, h4, h5, ⟨Px', h6⟩, h7, ⟨f'', g'', v'', h8⟩, h9, h10, h11, h12, ⟨K, h13⟩⟩ := h
  have ha : ∀ q, q < c ∨ c + 1 ≤ q → (wset w c (.inr (4, ofl c (nI m)))).2 q = w.2 q := fun q hq => wset_ne (by omega)
  have hsa : ∀ i, sA c σ i = c + 33 + 10 * σ i := fun i => rfl
  exact ⟨⟨wset_self _ _ _, h2.ag ha (by omega), ⟨f', g', v', h3.ag ha (by omega)⟩, (ha _ (by omega)).trans h4, h5.ag ha (by omega), ⟨Px', h6.ag ha (by omega)⟩, (ha _ (by omega)).trans h7, ⟨f'', g'', v'', h8.ag ha (by omega)⟩, (ha _ (by omega)).trans h9, fun i hi => (h10 i hi).ag ha (by have := hsa i; omega), h11, h12, ⟨K, (ha _ (by omega)).trans h13⟩⟩, rfl, fun q hq => ha q (by omega)⟩
theorem CI.rot {τ : Nat → Nat} {H' : Nat → Pl} {F : Nat → Option Nat} (h : CI w c n P S σ H) (hF : F = fun i => some (sA c τ i)) (hp : ∀ i, i < 5 → PlaceAt w (sA c τ i) (H' i)) (hi : ∀ i, i < 5 → τ i < 5) (hj : ∀ i j, i < 5 → j < 5 → τ i = τ j → i = j) : CI (wset w (c + 32) (plcs F)) c n P S τ H' ∧ Fr c w (wset w (c + 32) (plcs F)) := by
  subst hF
  obtain ⟨h1, h2, ⟨f', g', v', h3⟩, h4, h5, ⟨Px', h6⟩, h7, ⟨f'', g'', v'', h8⟩, h9, h10, h11, h12, ⟨K, h13⟩⟩ := h
  have ha : ∀ q, q < c + 32 ∨ c + 33 ≤ q → (wset w (c + 32) (plcs (fun i => some (sA c τ i)))).2 q = w.2 q := fun q hq => wset_ne (by omega)
  have hsa : ∀ i, sA c τ i = c + 33 + 10 * τ i := fun i => rfl
  exact ⟨⟨(ha _ (by omega)).trans h1, h2.ag ha (by omega), ⟨f', g', v', h3.ag ha (by omega)⟩, (ha _ (by omega)).trans h4, h5.ag ha (by omega), ⟨Px', h6.ag ha (by omega)⟩, (ha _ (by omega)).trans h7, ⟨f'', g'', v'', h8.ag ha (by omega)⟩, wset_self _ _ _, fun i hi => (hp i hi).ag ha (by have := hsa i; omega), hi, hj, ⟨K, (ha _ (by omega)).trans h13⟩⟩, rfl, fun q hq => ha q (by omega)⟩
end CIs
theorem wset_id {w : Wd} {a : Nat} {e : Ce} (h : w.2 a = some e) : wset w a e = w := by
  refine wd_ext rfl fun q => ?_
  by_cases hq : q = a
  · subst hq; rw [wset_self, h]
  · rw [wset_ne hq]
theorem wset_wset {w : Wd} {a : Nat} {e e' : Ce} : wset (wset w a e) a e' = wset w a e' := by
  refine wd_ext rfl fun q => ?_
  by_cases hq : q = a
  · subst hq; rw [wset_self, wset_self]
  · rw [wset_ne hq, wset_ne hq, wset_ne hq]
def rotF (F : Nat → Nat) : Nat → Nat := fun i => if i < 4 then F (i + 1) else if i = 4 then F 0 else F i
def rotP (H : Nat → Pl) : Nat → Pl := fun i => if i < 4 then H (i + 1) else if i = 4 then H 0 else H i
theorem rot_sA (c : Nat) (σ : Nat → Nat) (i : Nat) : sA c (rotF σ) i = rotF (sA c σ) i := by
  show c + 33 + 10 * (if i < 4 then σ (i + 1) else if i = 4 then σ 0 else σ i) = (if i < 4 then c + 33 + 10 * σ (i + 1) else if i = 4 then c + 33 + 10 * σ 0 else c + 33 + 10 * σ i)
  by_cases h : i < 4
  · rw [if_pos h, if_pos h]
  · rw [if_neg h, if_neg h]
    by_cases h2 : i = 4
    · rw [if_pos h2, if_pos h2]
    · rw [if_neg h2, if_neg h2]
theorem xq5 {W : Wd} {c : Nat} {x v : Int32} : wset W c (.inr (4, (ofl c x).set 5 (.int v))) = wset W c (.inr (4, ofl c v)) := rfl
theorem c_X4_dropOldest {w : Wd} {c n : Nat} {P S : Pl} {σ : Nat → Nat} {H : Nat → Pl} (hC : CI w c n P S σ H) : K_X4_dropOldest [.ref c] w (RV (wset (wset w (c + 32) (plcs (fun i => some (rotF (sA c σ) i)))) c (.inr (4, ofl c (nI 4))))) := by
  refine Con.mk [some (.ref c), none, none] (by decide) rfl rfl (Nat.le_of_ble_eq_true rfl) (fun X h hR hnm => ?_)
  obtain ⟨A, hA⟩ : ∃ A, A = sA c σ := ⟨_, rfl⟩
  rw [← hA] at hR
  have hpl : ∀ i, i < 5 → ∀ F, (wset w (c + 32) (plcs F)).2 (A i) = some (.inr (2, pfl (A i) (H i))) := by
    intro i hi F
    rw [wset_ne (by rw [hA]; unfold sA; omega), hA]
    exact (hC.hp hi).po
  have hob : ∀ F, (wset w (c + 32) (plcs F)).2 c = some (.inr (4, ofl c (nI n))) := fun F => by
    rw [wset_ne (by omega)]; exact hC.ob
  have hh : ∀ F, (wset w (c + 32) (plcs F)).2 (c + 32) = some (plcs F) := fun F => wset_self _ _ _
  have L : ∀ (d i : Nat), i + d = 4 → V X 0 0 9 [some (.ref c), some (.ref (A 0)), some (.int (nI i))] [] (wset w (c + 32) (plcs (fun q => some (if q < i then A (q + 1) else A q)))) := by
    intro d
    induction d with
    | zero =>
      intro i hid
      obtain rfl : i = 4 := by omega
      refine V.iload2 h 10 dX4_dropOldest_9 rfl (V.iconst h 11 dX4_dropOldest_10 rfl ic1_4 ?_)
      refine V.icmp_ge h 34 14 dX4_dropOldest_11 rfl rfl (fun _ => ?_) (fun q => absurd (lp_out (n := 4)) q)
      refine V.aload0 h 35 dX4_dropOldest_34 rfl (V.gX4 h 4 38 dX4_dropOldest_35 rfl rfl k204 (hob _) rfl (V.iconst h 39 dX4_dropOldest_38 rfl ic1_4 (V.aload1 h 40 dX4_dropOldest_39 rfl (V.aastN (i := 4) h 41 dX4_dropOldest_40 rfl (hh _) (hpl 0 (by decide) _) rfl rfl (by omega) (by decide) ?_))))
      rw [wset_wset]
      refine V.at (wset w (c + 32) (plcs (fun i => some (rotF A i)))) ?_ ?_
      · refine congrArg (fun F => wset w (c + 32) (plcs F)) (funext fun q => ?_)
        unfold va_up rotF
        by_cases h4 : q = 4
        · rw [if_pos h4, if_neg (by omega), if_pos h4]
        · rw [if_neg h4]
          dsimp only
          by_cases h5 : q < 4
          · rw [if_pos h5, if_pos h5]
          · rw [if_neg h5, if_neg h5, if_neg h4]
      refine V.aload0 h 42 dX4_dropOldest_41 rfl (V.iconst h 43 dX4_dropOldest_42 rfl ic1_4 (V.sX4 h 5 46 dX4_dropOldest_43 rfl rfl k205 rfl rfl rfl (hob _) rfl (V.at _ xq5 ?_)))
      refine V.vret h hR dX4_dropOldest_46 ?_
      exact ⟨rfl, rfl⟩
    | succ d ih =>
      intro i hid
      refine V.iload2 h 10 dX4_dropOldest_9 rfl (V.iconst h 11 dX4_dropOldest_10 rfl ic1_4 ?_)
      refine V.icmp_ge h 34 14 dX4_dropOldest_11 rfl rfl (fun q => absurd q (lp_in (n := 4) (by omega))) (fun _ => ?_)
      refine V.aload0 h 15 dX4_dropOldest_14 rfl (V.gX4 h 4 18 dX4_dropOldest_15 rfl rfl k204 (hob _) rfl (V.iload2 h 19 dX4_dropOldest_18 rfl (V.aload0 h 20 dX4_dropOldest_19 rfl (V.gX4 h 4 23 dX4_dropOldest_20 rfl rfl k204 (hob _) rfl (V.iload2 h 24 dX4_dropOldest_23 rfl (V.iconst h 25 dX4_dropOldest_24 rfl ic1_1 (V.iadd h 26 dX4_dropOldest_25 rfl ?_)))))))
      rw [show nI i + 1 = nI (i + 1) from (nI_succ i).symm]
      refine V.aaldN h 27 dX4_dropOldest_26 rfl (hh _) (by omega) (by decide) ?_
      rw [if_neg (show ¬ i + 1 < i by omega)]
      refine V.aastN h 28 dX4_dropOldest_27 rfl (hh _) (hpl (i + 1) (by omega) _) rfl rfl (by omega) (by decide) ?_
      rw [wset_wset]
      refine V.at (wset w (c + 32) (plcs (fun q => some (if q < i + 1 then A (q + 1) else A q)))) ?_ ?_
      · refine congrArg (fun F => wset w (c + 32) (plcs F)) (funext fun q => ?_)
        unfold va_up
        by_cases h4 : q = i
        · rw [if_pos h4, if_pos (by omega), h4]
        · rw [if_neg h4]
          dsimp only
          by_cases h5 : q < i
          · rw [if_pos h5, if_pos (by omega)]
          · rw [if_neg h5, if_neg (by omega)]
      refine V.incN2 h 31 dX4_dropOldest_28 rfl rfl (V.goto h 9 dX4_dropOldest_31 rfl ?_)
      exact ih (i + 1) (by omega)
  have e0 : wset w (c + 32) (plcs (fun q => some (if q < 0 then A (q + 1) else A q))) = w := wset_id (by
    rw [hC.hi, hA]
    exact congrArg (fun F => some (plcs F)) (funext fun q => by rw [if_neg (by omega)]))
  refine V.aload0 h 1 dX4_dropOldest_0 rfl (V.gX4 h 4 4 dX4_dropOldest_1 rfl rfl k204 hC.ob rfl (V.iconst h 5 dX4_dropOldest_4 rfl ic1_0 (V.aaldN (i := 0) h 6 dX4_dropOldest_5 rfl hC.hi (by omega) (by decide) (V.astore1 h 7 dX4_dropOldest_6 rfl rfl (V.iconst h 8 dX4_dropOldest_7 rfl ic1_0 (V.istore2 h 9 dX4_dropOldest_8 rfl rfl ?_))))))
  have l := L 4 0 rfl
  rw [e0, hA] at l
  exact l
