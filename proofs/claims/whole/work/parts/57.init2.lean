/-! constructors: script, the class, the reference -/
theorem c_X3_init {w : Wd} {p k : Nat} {C : Nat → Ce} (hk : C k = .inr (3, df3)) : K_X3_init 16 214 [.ref (p + k)] (wb w p (k + 1) C) (RVE (fun u => ∃ C', (∀ i, i < k → C' i = C i) ∧ C' k = .inr (3, sfl (p + k) P0) ∧ C' (k + 1) = chrs 80 z4 ∧ C' (k + 2) = ints 5 z4 ∧ (∀ t, t < 10 → C' (k + 3 + t) = pcl (p + (k + 3)) P0 t) ∧ C' (k + 13) = .inr (0, [.ref (p + (k + 3)), .ref (p + (k + 14))]) ∧ (∀ t, t < 3 → C' (k + 14 + t) = jcl (p + (k + 3)) (p + (k + 14)) (jr z4 z4 0) t) ∧ u = wb w p (k + 17) C')) := by
  refine Con.mk [some (.ref (p + k))] (by decide) rfl rfl (Nat.le_of_ble_eq_true rfl) (fun X h hR hnm => ?_)
  rw [← cu_id hk] at hR ⊢
  refine V.aload0 h 1 dX3_init_0 rfl (V.objInit h 4 dX3_init_1 rfl k157 (Nat.le_of_ble_eq_true rfl) (Nat.le_of_ble_eq_true rfl) (V.aload0 h 5 dX3_init_4 rfl (V.bipush h 7 dX3_init_5 rfl ic2_80 (V.bac h 80 (k + 2) 9 dX3_init_7 rfl rfl (by omega) (by decide) rfl (Nat.le_of_ble_eq_true rfl) (Nat.le_of_ble_eq_true rfl) (Nat.le_of_ble_eq_true rfl) (V.fX3 h 0 12 dX3_init_9 rfl hnm rfl k164 rfl rfl rfl rfl (wb_o (by omega)) rfl (V.at _ (wb_p (by omega)) (V.aload0 h 13 dX3_init_12 rfl ?_)))))))
  refine V.iconst h 14 dX3_init_13 rfl ic1_5 (V.bai h 5 (k + 3) 16 dX3_init_14 rfl rfl (by omega) (by decide) rfl (Nat.le_of_ble_eq_true rfl) (Nat.le_of_ble_eq_true rfl) (Nat.le_of_ble_eq_true rfl) (V.fX3 h 2 19 dX3_init_16 rfl hnm rfl k167 rfl rfl rfl rfl (wb_o (by omega)) rfl (V.at _ (wb_p (by omega)) (V.aload0 h 20 dX3_init_19 rfl (V.bnX2 h (k + 4) 23 dX3_init_20 rfl rfl (by omega) k158 (Nat.le_of_ble_eq_true rfl) (Nat.le_of_ble_eq_true rfl) (V.dup h 24 dX3_init_23 rfl rfl ?_))))))
  refine V.callINev (As := []) (st := [.ref _, .ref _]) h 27 dX3_init_24 rfl k21 k159 k20 k2 rfl hd_X2_init ⟨(Nat.le_of_ble_eq_true rfl), (Nat.le_of_ble_eq_true rfl), (Nat.le_of_ble_eq_true rfl), (Nat.le_of_ble_eq_true rfl)⟩ (Nat.le_of_ble_eq_true rfl) (c_X2_init (k := k + 3) (by rw [cu_ne (by omega)]; exact cu_self)) rfl (fun w24 hw24 => ?_)
  obtain ⟨C1, hL1, hP1, rfl⟩ := hw24
  rw [← cu_id ((hL1 k (by omega)).trans cu_self)]
  refine V.fX3 h 3 30 dX3_init_27 rfl hnm rfl k168 rfl rfl rfl rfl (wb_o (by omega)) rfl (V.at _ (wb_p (by omega)) (V.aload0 h 31 dX3_init_30 rfl (V.bnX0 h (k + 14) 34 dX3_init_31 rfl rfl (by omega) k160 (Nat.le_of_ble_eq_true rfl) (Nat.le_of_ble_eq_true rfl) (V.dup h 35 dX3_init_34 rfl rfl (V.aload0 h 36 dX3_init_35 rfl (V.gX3 h 3 39 dX3_init_36 rfl rfl k168 (wb_o (by omega)) rfl (V.bnX1 h (k + 15) 42 dX3_init_39 rfl rfl (by omega) k161 (Nat.le_of_ble_eq_true rfl) (Nat.le_of_ble_eq_true rfl) ?_)))))))
  refine V.dup h 43 dX3_init_42 rfl rfl (V.aload0 h 44 dX3_init_43 rfl (V.gX3 h 3 47 dX3_init_44 rfl rfl k168 (wb_o (by omega)) rfl (V.callINev (As := [.ref _]) (st := [.ref _, .ref _, .ref _, .ref _, .ref _]) h 50 dX3_init_47 rfl k124 k162 k123 k3 rfl hd_X1_init ⟨(Nat.le_of_ble_eq_true rfl), (Nat.le_of_ble_eq_true rfl), (Nat.le_of_ble_eq_true rfl), (Nat.le_of_ble_eq_true rfl)⟩ (Nat.le_of_ble_eq_true rfl) (c_X1_init (k := k + 14) (by rw [cu_ne (by omega)]; exact cu_self)) rfl (fun w47 hw47 => ?_))))
  obtain ⟨C2, hL2, hP2, rfl⟩ := hw47
  rw [← cu_id ((hL2 k (by omega)).trans cu_self)]
  refine V.callINev (As := [.ref _, .ref _]) (st := [.ref _, .ref _]) h 53 dX3_init_50 rfl k143 k163 k142 k4 rfl hd_X0_init ⟨(Nat.le_of_ble_eq_true rfl), (Nat.le_of_ble_eq_true rfl), (Nat.le_of_ble_eq_true rfl), (Nat.le_of_ble_eq_true rfl)⟩ (Nat.le_of_ble_eq_true rfl) (c_X0_init (k := k + 13) (by rw [cu_ne (by omega), hL2 _ (by omega), cu_ne (by omega), cu_ne (by omega), cu_self]) (by omega)) rfl (fun w50 hw50 => ?_)
  obtain rfl := hw50
  rw [cu_comm (by omega)]
  refine V.fX3 h 4 56 dX3_init_53 rfl hnm rfl k170 rfl rfl rfl rfl (wb_o (by omega)) rfl (V.at _ (wb_p (by omega)) ?_)
  refine V.vret h hR dX3_init_56 ?_
  refine ⟨rfl, _, ?_, cu_self, ?_, ?_, ?_, ?_, ?_, rfl⟩
  · intro i hi
    rw [cu_ne (by omega), cu_ne (by omega), hL2 _ (by omega)]
    repeat rw [cu_ne (by omega)]
    rw [hL1 _ (by omega)]
    repeat rw [cu_ne (by omega)]
  · rw [cu_ne (by omega), cu_ne (by omega), hL2 _ (by omega)]
    repeat rw [cu_ne (by omega)]
    rw [hL1 _ (by omega)]
    repeat rw [cu_ne (by omega)]
    rw [cu_self]; rfl
  · rw [cu_ne (by omega), cu_ne (by omega), hL2 _ (by omega)]
    repeat rw [cu_ne (by omega)]
    rw [hL1 _ (by omega)]
    repeat rw [cu_ne (by omega)]
    rw [cu_self]; rfl
  · intro t ht
    rw [cu_ne (by omega), cu_ne (by omega), hL2 _ (by omega)]
    repeat rw [cu_ne (by omega)]
    exact hP1 t ht
  · rw [cu_ne (by omega), cu_self]
  · intro t ht
    rw [cu_ne (by omega), cu_ne (by omega)]
    exact hP2 t ht
theorem c_X5_init {w : Wd} {p k : Nat} {C : Nat → Ce} (hk : C k = .inr (5, df5)) : K_X5_init 6 847 [.ref (p + k)] (wb w p (k + 1) C) (RVE (fun u => ∃ C', (∀ i, i < k → C' i = C i) ∧ (∀ t, t < 7 → C' (k + t) = mcl (p + k) (us P0 6 (-1)) t) ∧ u = wb w p (k + 7) C')) := by
  refine Con.mk [some (.ref (p + k))] (by decide) rfl rfl (Nat.le_of_ble_eq_true rfl) (fun X h hR hnm => ?_)
  rw [← cu_id hk] at hR ⊢
  refine V.aload0 h 1 dX5_init_0 rfl (V.objInit h 4 dX5_init_1 rfl k543 (Nat.le_of_ble_eq_true rfl) (Nat.le_of_ble_eq_true rfl) (V.aload0 h 5 dX5_init_4 rfl (V.bipush h 7 dX5_init_5 rfl ic2_125 (V.bai h 125 (k + 2) 9 dX5_init_7 rfl rfl (by omega) (by decide) rfl (Nat.le_of_ble_eq_true rfl) (Nat.le_of_ble_eq_true rfl) (Nat.le_of_ble_eq_true rfl) (V.fX5 h 0 12 dX5_init_9 rfl hnm rfl k544 rfl rfl rfl rfl (wb_o (by omega)) rfl (V.at _ (wb_p (by omega)) (V.aload0 h 13 dX5_init_12 rfl ?_)))))))
  refine V.bipush h 15 dX5_init_13 rfl ic2_125 (V.bai h 125 (k + 3) 17 dX5_init_15 rfl rfl (by omega) (by decide) rfl (Nat.le_of_ble_eq_true rfl) (Nat.le_of_ble_eq_true rfl) (Nat.le_of_ble_eq_true rfl) (V.fX5 h 1 20 dX5_init_17 rfl hnm rfl k545 rfl rfl rfl rfl (wb_o (by omega)) rfl (V.at _ (wb_p (by omega)) (V.aload0 h 21 dX5_init_20 rfl (V.sipush h 24 dX5_init_21 rfl ic3_500 (V.bai h 500 (k + 4) 26 dX5_init_24 rfl rfl (by omega) (by decide) rfl (Nat.le_of_ble_eq_true rfl) (Nat.le_of_ble_eq_true rfl) (Nat.le_of_ble_eq_true rfl) (V.fX5 h 2 29 dX5_init_26 rfl hnm rfl k546 rfl rfl rfl rfl (wb_o (by omega)) rfl ?_)))))))
  refine V.at _ (wb_p (by omega)) (V.aload0 h 30 dX5_init_29 rfl (V.bipush h 32 dX5_init_30 rfl ic2_80 (V.bai h 80 (k + 5) 34 dX5_init_32 rfl rfl (by omega) (by decide) rfl (Nat.le_of_ble_eq_true rfl) (Nat.le_of_ble_eq_true rfl) (Nat.le_of_ble_eq_true rfl) (V.fX5 h 4 37 dX5_init_34 rfl hnm rfl k548 rfl rfl rfl rfl (wb_o (by omega)) rfl (V.at _ (wb_p (by omega)) (V.aload0 h 38 dX5_init_37 rfl (V.iconst h 39 dX5_init_38 rfl ic1_m1 ?_)))))))
  refine V.sX5 h 6 42 dX5_init_39 rfl rfl k550 rfl rfl rfl (wb_o (by omega)) rfl (V.at _ (wb_p (by omega)) (V.aload0 h 43 dX5_init_42 rfl (V.bipush h 45 dX5_init_43 rfl ic2_12 (V.bai h 12 (k + 6) 47 dX5_init_45 rfl rfl (by omega) (by decide) rfl (Nat.le_of_ble_eq_true rfl) (Nat.le_of_ble_eq_true rfl) (Nat.le_of_ble_eq_true rfl) (V.fX5 h 8 50 dX5_init_47 rfl hnm rfl k552 rfl rfl rfl rfl (wb_o (by omega)) rfl (V.at _ (wb_p (by omega)) (V.aload0 h 51 dX5_init_50 rfl ?_)))))))
  refine V.iconst h 52 dX5_init_51 rfl ic1_5 (V.bai h 5 (k + 7) 54 dX5_init_52 rfl rfl (by omega) (by decide) rfl (Nat.le_of_ble_eq_true rfl) (Nat.le_of_ble_eq_true rfl) (Nat.le_of_ble_eq_true rfl) (V.fX5 h 14 57 dX5_init_54 rfl hnm rfl k558 rfl rfl rfl rfl (wb_o (by omega)) rfl (V.at _ (wb_p (by omega)) ?_)))
  refine V.vret h hR dX5_init_57 ?_
  refine ⟨rfl, _, ?_, ?_, rfl⟩
  · intro i hi; repeat rw [cu_ne (by omega)]
  · intro t ht
    match t, ht with
    | 0, _ => exact (cu_self (k := k)).trans rfl
    | 1, _ => repeat rw [cu_ne (by omega)]
              rw [cu_self]; rfl
    | 2, _ => repeat rw [cu_ne (by omega)]
              rw [cu_self]; rfl
    | 3, _ => repeat rw [cu_ne (by omega)]
              rw [cu_self]; rfl
    | 4, _ => repeat rw [cu_ne (by omega)]
              rw [cu_self]; rfl
    | 5, _ => repeat rw [cu_ne (by omega)]
              rw [cu_self]; rfl
    | 6, _ => repeat rw [cu_ne (by omega)]
              rw [cu_self]; rfl
    | n + 7, h => omega
def hF (p k n : Nat) : Nat → Option Nat := fun i => if i < n then some (p + (k + 33 + 10 * i)) else none
def FA (p k : Nat) (A0 : Nat → Ce) (n : Nat) (A : Nat → Ce) : Prop := A (k + 32) = plcs (hF p k n) ∧ (∀ q, q < n → ∀ t, t < 10 → A (k + 33 + 10 * q + t) = pcl (p + (k + 33 + 10 * q)) P0 t) ∧ ∀ i, i < k + 32 → i ≠ k → A i = A0 i
theorem FA_s {p k n : Nat} {A0 A C1 : Nat → Ce} {e o : Ce} (h : FA p k A0 n A) (hL : ∀ i, i < k + 33 + 10 * n → C1 i = cu (cu A (k + 33 + 10 * n) e) k o i) (hP : ∀ t, t < 10 → C1 (k + 33 + 10 * n + t) = pcl (p + (k + 33 + 10 * n)) P0 t) : FA p k A0 (n + 1) (cu C1 (k + 32) (plcs (hF p k (n + 1)))) := by
  refine ⟨cu_self, fun q hq t ht => ?_, fun i hi hk => ?_⟩
  · rw [cu_ne (by omega)]
    by_cases h1 : q = n
    · rw [h1]; exact hP t ht
    · rw [hL _ (by omega), cu_ne (by omega), cu_ne (by omega)]
      exact h.2.1 q (by omega) t ht
  · rw [cu_ne (by omega), hL _ (by omega), cu_ne hk, cu_ne (by omega)]
    exact h.2.2 i hi hk
theorem hF_s {p k n : Nat} : va_up (hF p k n) n (some (p + (k + 33 + 10 * n))) = hF p k (n + 1) := by
  funext i
  unfold va_up hF
  by_cases h : i = n
  · rw [if_pos h, if_pos (by omega), h]
  · rw [if_neg h]
    by_cases h2 : i < n
    · rw [if_pos h2, if_pos (by omega)]
    · rw [if_neg h2, if_neg (by omega)]
theorem wR.refs {g : GG} {B : Nat} {w : Wd} {H : Heap} {a n : Nat} {f f' : Nat → Option Nat} (h : wR g B w H) (ha : w.2 a = some (.inl (3, n, .inr (.inr (.inr (.inr f)))))) (hf : ∀ k, k < n → f k = f' k) : wR g B (wset w a (.inl (3, n, .inr (.inr (.inr (.inr f')))))) H := by
  refine h.upd ha rfl (fun _ _ => rfl) ?_
  have h1 := (h.lo ha).2
  show H[a]? = some (vp_cell _ _)
  have h1 : H[a]? = some (vp_cell (g.2 3) (n, .inr (.inr (.inr (.inr f))))) := h1
  rw [h1, vp_cell_q, vp_cell_q]
  exact congrArg some (arrV_cong fun k hk => by rw [hf k hk])
theorem V.refs {X : CX} {kc ks pc : Nat} {lv : List (Option Value)} {st : List Value} {w : Wd} {a n : Nat} {f f' : Nat → Option Nat} (ha : w.2 a = some (.inl (3, n, .inr (.inr (.inr (.inr f)))))) (hf : ∀ k, k < n → f k = f' k) (k : V X kc ks pc lv st (wset w a (.inl (3, n, .inr (.inr (.inr (.inr f'))))))) : V X kc ks pc lv st w :=
  fun H locs ls hw hS hl => k H locs ls (hw.refs ha hf) hS hl
def FB (p k : Nat) (A0 : Nat → Ce) (A : Nat → Ce) : Prop := A (k + 32) = plcs (fun i => some (sA (p + k) (fun i => i) i)) ∧ (∀ q, q < 5 → ∀ t, t < 10 → A (k + 33 + 10 * q + t) = pcl (p + (k + 33 + 10 * q)) P0 t) ∧ ∀ i, i < k + 32 → i ≠ k → A i = A0 i
def o4 (p k : Nat) (v : Value) : Ce := .inr (4, [.ref (p + (k + 1)), .ref (p + (k + 11)), .ref (p + (k + 14)), .ref (p + (k + 15)), .ref (p + (k + 32)), .int 0, v])
def PreA (p k : Nat) (C A0 : Nat → Ce) : Prop := (∀ i, i < k → A0 i = C i) ∧ (∀ t, t < 10 → A0 (k + 1 + t) = pcl (p + (k + 1)) P0 t) ∧ (∀ t, t < 3 → A0 (k + 11 + t) = jcl (p + (k + 1)) (p + (k + 11)) (jr z4 z4 0) t) ∧ A0 (k + 14) = .inr (0, [.ref (p + (k + 1)), .ref (p + (k + 11))]) ∧ A0 (k + 15) = .inr (3, sfl (p + (k + 15)) P0) ∧ A0 (k + 15 + 1) = chrs 80 z4 ∧ A0 (k + 15 + 2) = ints 5 z4 ∧ (∀ t, t < 10 → A0 (k + 15 + 3 + t) = pcl (p + (k + 15 + 3)) P0 t) ∧ A0 (k + 15 + 13) = .inr (0, [.ref (p + (k + 15 + 3)), .ref (p + (k + 15 + 14))]) ∧ (∀ t, t < 3 → A0 (k + 15 + 14 + t) = jcl (p + (k + 15 + 3)) (p + (k + 15 + 14)) (jr z4 z4 0) t)
theorem c_X4_init {w : Wd} {p k : Nat} {C : Nat → Ce} (hk : C k = .inr (4, df4)) : K_X4_init 83 944 [.ref (p + k)] (wb w p (k + 1) C) (RVE (fun u => ∃ C', (∀ i, i < k → C' i = C i) ∧ u = wb w p (k + 84) C' ∧ CI (wb w p (k + 84) C') (p + k) 0 P0 P0 (fun i => i) (fun _ => P0))) := by
  refine Con.mk [some (.ref (p + k)), none] (by decide) rfl rfl (Nat.le_of_ble_eq_true rfl) (fun X h hR hnm => ?_)
  rw [← cu_id hk] at hR ⊢
  have fin : ∀ (A0 A : Nat → Ce), (∀ i, i < k → A0 i = C i) → (∀ t, t < 10 → A0 (k + 1 + t) = pcl (p + (k + 1)) P0 t) → (∀ t, t < 3 → A0 (k + 11 + t) = jcl (p + (k + 1)) (p + (k + 11)) (jr z4 z4 0) t) → A0 (k + 14) = .inr (0, [.ref (p + (k + 1)), .ref (p + (k + 11))]) →
      A0 (k + 15) = .inr (3, sfl (p + (k + 15)) P0) → A0 (k + 15 + 1) = chrs 80 z4 → A0 (k + 15 + 2) = ints 5 z4 → (∀ t, t < 10 → A0 (k + 15 + 3 + t) = pcl (p + (k + 15 + 3)) P0 t) → A0 (k + 15 + 13) = .inr (0, [.ref (p + (k + 15 + 3)), .ref (p + (k + 15 + 14))]) → (∀ t, t < 3 → A0 (k + 15 + 14 + t) = jcl (p + (k + 15 + 3)) (p + (k + 15 + 14)) (jr z4 z4 0) t) →
      FB p k A0 A → (RVE (fun u => ∃ C', (∀ i, i < k → C' i = cu C k (.inr (4, df4)) i) ∧ u = wb w p (k + 84) C' ∧ CI (wb w p (k + 84) C') (p + k) 0 P0 P0 (fun i => i) (fun _ => P0))) none (wb w p (k + 84) (cu (cu A (k + 83) (.inl (1, 12, .inr (.inl (fun _ => 0))))) k (o4 p k (.ref (p + (k + 83)))))) := by
    intro A0 A h0 h1 h2 h3 h4 h5 h6 h7 h8 h9 hA
    have get : ∀ i, i < k + 83 → i ≠ k → (wb w p (k + 84) (cu (cu A (k + 83) (.inl (1, 12, .inr (.inl (fun _ => 0))))) k (o4 p k (.ref (p + (k + 83)))))).2 (p + i) = some (A i) := fun i hi hik => by
      rw [wb_in (by omega), cu_ne hik, cu_ne (by omega)]
    have get0 : ∀ i, i < k + 32 → i ≠ k → (wb w p (k + 84) (cu (cu A (k + 83) (.inl (1, 12, .inr (.inl (fun _ => 0))))) k (o4 p k (.ref (p + (k + 83)))))).2 (p + i) = some (A0 i) := fun i hi hik => by
      rw [get i (by omega) hik, hA.2.2 i hi hik]
    refine ⟨rfl, _, ?_, rfl, ?_⟩
    · intro i hi
      rw [cu_ne (by omega), cu_ne (by omega), hA.2.2 i (by omega) (by omega), h0 i hi, cu_ne (by omega)]
    · refine ⟨?_, ?_, ⟨z4, z4, 0, ?_⟩, ?_, ?_, ⟨P0, ?_⟩, ?_, ⟨z4, z4, 0, ?_⟩, ?_, ?_, fun i hi => hi, fun i j _ _ h => h, ⟨fun _ => 0, ?_⟩⟩
      · exact wb_o (by omega)
      · intro t ht
        show (wb w p (k + 84) _).2 (p + k + 1 + t) = _
        rw [show p + k + 1 + t = p + (k + 1 + t) by omega, get0 _ (by omega) (by omega), h1 t ht]; rfl
      · intro t ht
        show (wb w p (k + 84) _).2 (p + k + 11 + t) = _
        rw [show p + k + 11 + t = p + (k + 11 + t) by omega, get0 _ (by omega) (by omega), h2 t ht]; rfl
      · rw [show p + k + 14 = p + (k + 14) by omega, get0 _ (by omega) (by omega), h3]; rfl
      · intro t ht
        show (wb w p (k + 84) _).2 (p + k + 15 + t) = _
        rw [show p + k + 15 + t = p + (k + 15 + t) by omega, get0 _ (by omega) (by omega)]
        match t, ht with
        | 0, _ => exact congrArg some h4
        | 1, _ => exact congrArg some h5
        | 2, _ => exact congrArg some h6
        | n + 3, h => omega
      · intro t ht
        show (wb w p (k + 84) _).2 (p + k + 15 + 3 + t) = _
        rw [show p + k + 15 + 3 + t = p + (k + 15 + 3 + t) by omega, get0 _ (by omega) (by omega), h7 t ht]; rfl
      · show (wb w p (k + 84) _).2 (p + k + 15 + 13) = _
        rw [show p + k + 15 + 13 = p + (k + 15 + 13) by omega, get0 _ (by omega) (by omega), h8]; rfl
      · intro t ht
        show (wb w p (k + 84) _).2 (p + k + 15 + 14 + t) = _
        rw [show p + k + 15 + 14 + t = p + (k + 15 + 14 + t) by omega, get0 _ (by omega) (by omega), h9 t ht]; rfl
      · rw [show p + k + 32 = p + (k + 32) by omega, get _ (by omega) (by omega), hA.1]
      · intro i hi t ht
        show (wb w p (k + 84) _).2 (p + k + 33 + 10 * i + t) = _
        rw [show p + k + 33 + 10 * i + t = p + (k + 33 + 10 * i + t) by omega, get _ (by omega) (by omega), hA.2.1 i hi t ht]
        rw [show p + (k + 33 + 10 * i) = sA (p + k) (fun i => i) i by show _ = p + k + 33 + 10 * i; omega]
      · rw [show p + k + 83 = p + (k + 83) by omega, wb_in (by omega), cu_ne (by omega), cu_self]
  have L5 : ∀ (A0 A : Nat → Ce), (PreA p k C A0) → FA p k A0 5 A → V X 82 932 70 [some (.ref (p + k)), some (.int (nI 5))] [] (wb w p (k + 33 + 10 * 5) (cu A k (o4 p k .null))) := by
    intro A0 A hp hA
    obtain ⟨h0, h1, h2, h3, h4, h5, h6, h7, h8, h9⟩ := hp
    have hh : (wb w p (k + 33 + 10 * 5) (cu A k (o4 p k .null))).2 (p + (k + 32)) = some (plcs (hF p k 5)) := by
      rw [wb_in (by omega), cu_ne (by omega), hA.1]
    refine V.refs (f' := fun i => some (sA (p + k) (fun i => i) i)) hh (fun i hi => by
      unfold hF
      rw [if_pos hi, show p + (k + 33 + 10 * i) = sA (p + k) (fun i => i) i by show _ = p + k + 33 + 10 * i; omega]) ?_
    refine V.at (wb w p (k + 33 + 10 * 5) (cu (cu A (k + 32) (plcs (fun i => some (sA (p + k) (fun i => i) i)))) k (o4 p k .null))) (by rw [wb_set (by omega), cu_comm (by omega)]) ?_
    have hB : FB p k A0 (cu A (k + 32) (plcs (fun i => some (sA (p + k) (fun i => i) i)))) := by
      refine ⟨cu_self, fun q hq t ht => ?_, fun i hi hk => ?_⟩
      · rw [cu_ne (by omega)]; exact hA.2.1 q hq t ht
      · rw [cu_ne (by omega)]; exact hA.2.2 i hi hk
    refine V.iload1 h 71 dX4_init_70 rfl (V.iconst h 72 dX4_init_71 rfl ic1_4 ?_)
    refine V.icmp_gt h 94 75 dX4_init_72 rfl rfl (fun _ => ?_) (fun q => absurd (show (4 : Int32) < nI 5 by decide) q)
    refine V.aload0 h 95 dX4_init_94 rfl (V.bipush h 97 dX4_init_95 rfl ic2_12 (V.bal h 12 (k + 84) 99 dX4_init_97 rfl rfl (by omega) (by decide) rfl (Nat.le_of_ble_eq_true rfl) (Nat.le_of_ble_eq_true rfl) (Nat.le_of_ble_eq_true rfl) (V.fX4 h 6 102 dX4_init_99 rfl hnm rfl k206 rfl rfl rfl rfl (wb_o (by omega)) rfl (V.at _ (wb_p (by omega)) ?_))))
    refine V.vret h hR dX4_init_102 ?_
    exact fin A0 _ h0 h1 h2 h3 h4 h5 h6 h7 h8 h9 hB
  have L4 : ∀ (A0 A : Nat → Ce), PreA p k C A0 → FA p k A0 4 A → V X 72 817 70 [some (.ref (p + k)), some (.int (nI 4))] [] (wb w p (k + 33 + 10 * 4) (cu A k (o4 p k .null))) := by
    intro A0 A hp hA
    refine V.iload1 h 71 dX4_init_70 rfl (V.iconst h 72 dX4_init_71 rfl ic1_4 ?_)
    refine V.icmp_gt h 94 75 dX4_init_72 rfl rfl (fun q => absurd q (show ¬ (4 : Int32) < nI 4 by decide)) (fun _ => ?_)
    refine V.aload0 h 76 dX4_init_75 rfl (V.gX4 h 4 79 dX4_init_76 rfl rfl k204 (wb_o (by omega)) rfl (V.iload1 h 80 dX4_init_79 rfl (V.bnX2 h (k + 74) 83 dX4_init_80 rfl rfl (by omega) k17 (Nat.le_of_ble_eq_true rfl) (Nat.le_of_ble_eq_true rfl) (V.dup h 84 dX4_init_83 rfl rfl (V.callINev (As := []) (st := [.ref _, .int _, .ref _]) h 87 dX4_init_84 rfl k21 k19 k20 k2 rfl hd_X2_init ⟨(Nat.le_of_ble_eq_true rfl), (Nat.le_of_ble_eq_true rfl), (Nat.le_of_ble_eq_true rfl), (Nat.le_of_ble_eq_true rfl)⟩ (Nat.le_of_ble_eq_true rfl) (c_X2_init (k := k + 33 + 10 * 4) (by rw [cu_ne (by omega)]; exact cu_self)) rfl (fun w84 hw84 => ?_))))))
    obtain ⟨C1, hL1, hP1, rfl⟩ := hw84
    rw [← cu_id ((hL1 k (by omega)).trans cu_self)]
    have hh : (wb w p (k + 33 + 10 * 4 + 10) (cu C1 k (o4 p k .null))).2 (p + (k + 32)) = some (plcs (hF p k 4)) := by
      rw [wb_in (by omega), cu_ne (by omega), hL1 _ (by omega), cu_ne (by omega), cu_ne (by omega), hA.1]
    have hv : (wb w p (k + 33 + 10 * 4 + 10) (cu C1 k (o4 p k .null))).2 (p + (k + 33 + 10 * 4)) = some (.inr (2, pfl (p + (k + 33 + 10 * 4)) P0)) := by
      rw [wb_in (by omega), cu_ne (by omega)]
      exact congrArg some (hP1 0 (by decide))
    refine V.aastN (i := 4) h 88 dX4_init_87 rfl hh hv rfl rfl (by omega) (by decide) ?_
    rw [wb_set (by omega), cu_comm (by omega), hF_s]
    refine V.incN1 h 91 dX4_init_88 rfl rfl (V.goto h 70 dX4_init_91 rfl ?_)
    exact L5 A0 _ hp (FA_s hA hL1 hP1)
  have L3 : ∀ (A0 A : Nat → Ce), PreA p k C A0 → FA p k A0 3 A → V X 62 702 70 [some (.ref (p + k)), some (.int (nI 3))] [] (wb w p (k + 33 + 10 * 3) (cu A k (o4 p k .null))) := by
    intro A0 A hp hA
    refine V.iload1 h 71 dX4_init_70 rfl (V.iconst h 72 dX4_init_71 rfl ic1_4 ?_)
    refine V.icmp_gt h 94 75 dX4_init_72 rfl rfl (fun q => absurd q (show ¬ (4 : Int32) < nI 3 by decide)) (fun _ => ?_)
    refine V.aload0 h 76 dX4_init_75 rfl (V.gX4 h 4 79 dX4_init_76 rfl rfl k204 (wb_o (by omega)) rfl (V.iload1 h 80 dX4_init_79 rfl (V.bnX2 h (k + 64) 83 dX4_init_80 rfl rfl (by omega) k17 (Nat.le_of_ble_eq_true rfl) (Nat.le_of_ble_eq_true rfl) (V.dup h 84 dX4_init_83 rfl rfl (V.callINev (As := []) (st := [.ref _, .int _, .ref _]) h 87 dX4_init_84 rfl k21 k19 k20 k2 rfl hd_X2_init ⟨(Nat.le_of_ble_eq_true rfl), (Nat.le_of_ble_eq_true rfl), (Nat.le_of_ble_eq_true rfl), (Nat.le_of_ble_eq_true rfl)⟩ (Nat.le_of_ble_eq_true rfl) (c_X2_init (k := k + 33 + 10 * 3) (by rw [cu_ne (by omega)]; exact cu_self)) rfl (fun w84 hw84 => ?_))))))
    obtain ⟨C1, hL1, hP1, rfl⟩ := hw84
    rw [← cu_id ((hL1 k (by omega)).trans cu_self)]
    have hh : (wb w p (k + 33 + 10 * 3 + 10) (cu C1 k (o4 p k .null))).2 (p + (k + 32)) = some (plcs (hF p k 3)) := by
      rw [wb_in (by omega), cu_ne (by omega), hL1 _ (by omega), cu_ne (by omega), cu_ne (by omega), hA.1]
    have hv : (wb w p (k + 33 + 10 * 3 + 10) (cu C1 k (o4 p k .null))).2 (p + (k + 33 + 10 * 3)) = some (.inr (2, pfl (p + (k + 33 + 10 * 3)) P0)) := by
      rw [wb_in (by omega), cu_ne (by omega)]
      exact congrArg some (hP1 0 (by decide))
    refine V.aastN (i := 3) h 88 dX4_init_87 rfl hh hv rfl rfl (by omega) (by decide) ?_
    rw [wb_set (by omega), cu_comm (by omega), hF_s]
    refine V.incN1 h 91 dX4_init_88 rfl rfl (V.goto h 70 dX4_init_91 rfl ?_)
    exact L4 A0 _ hp (FA_s hA hL1 hP1)
  have L2 : ∀ (A0 A : Nat → Ce), PreA p k C A0 → FA p k A0 2 A → V X 52 587 70 [some (.ref (p + k)), some (.int (nI 2))] [] (wb w p (k + 33 + 10 * 2) (cu A k (o4 p k .null))) := by
    intro A0 A hp hA
    refine V.iload1 h 71 dX4_init_70 rfl (V.iconst h 72 dX4_init_71 rfl ic1_4 ?_)
    refine V.icmp_gt h 94 75 dX4_init_72 rfl rfl (fun q => absurd q (show ¬ (4 : Int32) < nI 2 by decide)) (fun _ => ?_)
    refine V.aload0 h 76 dX4_init_75 rfl (V.gX4 h 4 79 dX4_init_76 rfl rfl k204 (wb_o (by omega)) rfl (V.iload1 h 80 dX4_init_79 rfl (V.bnX2 h (k + 54) 83 dX4_init_80 rfl rfl (by omega) k17 (Nat.le_of_ble_eq_true rfl) (Nat.le_of_ble_eq_true rfl) (V.dup h 84 dX4_init_83 rfl rfl (V.callINev (As := []) (st := [.ref _, .int _, .ref _]) h 87 dX4_init_84 rfl k21 k19 k20 k2 rfl hd_X2_init ⟨(Nat.le_of_ble_eq_true rfl), (Nat.le_of_ble_eq_true rfl), (Nat.le_of_ble_eq_true rfl), (Nat.le_of_ble_eq_true rfl)⟩ (Nat.le_of_ble_eq_true rfl) (c_X2_init (k := k + 33 + 10 * 2) (by rw [cu_ne (by omega)]; exact cu_self)) rfl (fun w84 hw84 => ?_))))))
    obtain ⟨C1, hL1, hP1, rfl⟩ := hw84
    rw [← cu_id ((hL1 k (by omega)).trans cu_self)]
    have hh : (wb w p (k + 33 + 10 * 2 + 10) (cu C1 k (o4 p k .null))).2 (p + (k + 32)) = some (plcs (hF p k 2)) := by
      rw [wb_in (by omega), cu_ne (by omega), hL1 _ (by omega), cu_ne (by omega), cu_ne (by omega), hA.1]
    have hv : (wb w p (k + 33 + 10 * 2 + 10) (cu C1 k (o4 p k .null))).2 (p + (k + 33 + 10 * 2)) = some (.inr (2, pfl (p + (k + 33 + 10 * 2)) P0)) := by
      rw [wb_in (by omega), cu_ne (by omega)]
      exact congrArg some (hP1 0 (by decide))
    refine V.aastN (i := 2) h 88 dX4_init_87 rfl hh hv rfl rfl (by omega) (by decide) ?_
    rw [wb_set (by omega), cu_comm (by omega), hF_s]
    refine V.incN1 h 91 dX4_init_88 rfl rfl (V.goto h 70 dX4_init_91 rfl ?_)
    exact L3 A0 _ hp (FA_s hA hL1 hP1)
  have L1 : ∀ (A0 A : Nat → Ce), PreA p k C A0 → FA p k A0 1 A → V X 42 472 70 [some (.ref (p + k)), some (.int (nI 1))] [] (wb w p (k + 33 + 10 * 1) (cu A k (o4 p k .null))) := by
    intro A0 A hp hA
    refine V.iload1 h 71 dX4_init_70 rfl (V.iconst h 72 dX4_init_71 rfl ic1_4 ?_)
    refine V.icmp_gt h 94 75 dX4_init_72 rfl rfl (fun q => absurd q (show ¬ (4 : Int32) < nI 1 by decide)) (fun _ => ?_)
    refine V.aload0 h 76 dX4_init_75 rfl (V.gX4 h 4 79 dX4_init_76 rfl rfl k204 (wb_o (by omega)) rfl (V.iload1 h 80 dX4_init_79 rfl (V.bnX2 h (k + 44) 83 dX4_init_80 rfl rfl (by omega) k17 (Nat.le_of_ble_eq_true rfl) (Nat.le_of_ble_eq_true rfl) (V.dup h 84 dX4_init_83 rfl rfl (V.callINev (As := []) (st := [.ref _, .int _, .ref _]) h 87 dX4_init_84 rfl k21 k19 k20 k2 rfl hd_X2_init ⟨(Nat.le_of_ble_eq_true rfl), (Nat.le_of_ble_eq_true rfl), (Nat.le_of_ble_eq_true rfl), (Nat.le_of_ble_eq_true rfl)⟩ (Nat.le_of_ble_eq_true rfl) (c_X2_init (k := k + 33 + 10 * 1) (by rw [cu_ne (by omega)]; exact cu_self)) rfl (fun w84 hw84 => ?_))))))
    obtain ⟨C1, hL1, hP1, rfl⟩ := hw84
    rw [← cu_id ((hL1 k (by omega)).trans cu_self)]
    have hh : (wb w p (k + 33 + 10 * 1 + 10) (cu C1 k (o4 p k .null))).2 (p + (k + 32)) = some (plcs (hF p k 1)) := by
      rw [wb_in (by omega), cu_ne (by omega), hL1 _ (by omega), cu_ne (by omega), cu_ne (by omega), hA.1]
    have hv : (wb w p (k + 33 + 10 * 1 + 10) (cu C1 k (o4 p k .null))).2 (p + (k + 33 + 10 * 1)) = some (.inr (2, pfl (p + (k + 33 + 10 * 1)) P0)) := by
      rw [wb_in (by omega), cu_ne (by omega)]
      exact congrArg some (hP1 0 (by decide))
    refine V.aastN (i := 1) h 88 dX4_init_87 rfl hh hv rfl rfl (by omega) (by decide) ?_
    rw [wb_set (by omega), cu_comm (by omega), hF_s]
    refine V.incN1 h 91 dX4_init_88 rfl rfl (V.goto h 70 dX4_init_91 rfl ?_)
    exact L2 A0 _ hp (FA_s hA hL1 hP1)
  have L0 : ∀ (A0 A : Nat → Ce), PreA p k C A0 → FA p k A0 0 A → V X 32 357 70 [some (.ref (p + k)), some (.int (nI 0))] [] (wb w p (k + 33 + 10 * 0) (cu A k (o4 p k .null))) := by
    intro A0 A hp hA
    refine V.iload1 h 71 dX4_init_70 rfl (V.iconst h 72 dX4_init_71 rfl ic1_4 ?_)
    refine V.icmp_gt h 94 75 dX4_init_72 rfl rfl (fun q => absurd q (show ¬ (4 : Int32) < nI 0 by decide)) (fun _ => ?_)
    refine V.aload0 h 76 dX4_init_75 rfl (V.gX4 h 4 79 dX4_init_76 rfl rfl k204 (wb_o (by omega)) rfl (V.iload1 h 80 dX4_init_79 rfl (V.bnX2 h (k + 34) 83 dX4_init_80 rfl rfl (by omega) k17 (Nat.le_of_ble_eq_true rfl) (Nat.le_of_ble_eq_true rfl) (V.dup h 84 dX4_init_83 rfl rfl (V.callINev (As := []) (st := [.ref _, .int _, .ref _]) h 87 dX4_init_84 rfl k21 k19 k20 k2 rfl hd_X2_init ⟨(Nat.le_of_ble_eq_true rfl), (Nat.le_of_ble_eq_true rfl), (Nat.le_of_ble_eq_true rfl), (Nat.le_of_ble_eq_true rfl)⟩ (Nat.le_of_ble_eq_true rfl) (c_X2_init (k := k + 33 + 10 * 0) (by rw [cu_ne (by omega)]; exact cu_self)) rfl (fun w84 hw84 => ?_))))))
    obtain ⟨C1, hL1, hP1, rfl⟩ := hw84
    rw [← cu_id ((hL1 k (by omega)).trans cu_self)]
    have hh : (wb w p (k + 33 + 10 * 0 + 10) (cu C1 k (o4 p k .null))).2 (p + (k + 32)) = some (plcs (hF p k 0)) := by
      rw [wb_in (by omega), cu_ne (by omega), hL1 _ (by omega), cu_ne (by omega), cu_ne (by omega), hA.1]
    have hv : (wb w p (k + 33 + 10 * 0 + 10) (cu C1 k (o4 p k .null))).2 (p + (k + 33 + 10 * 0)) = some (.inr (2, pfl (p + (k + 33 + 10 * 0)) P0)) := by
      rw [wb_in (by omega), cu_ne (by omega)]
      exact congrArg some (hP1 0 (by decide))
    refine V.aastN (i := 0) h 88 dX4_init_87 rfl hh hv rfl rfl (by omega) (by decide) ?_
    rw [wb_set (by omega), cu_comm (by omega), hF_s]
    refine V.incN1 h 91 dX4_init_88 rfl rfl (V.goto h 70 dX4_init_91 rfl ?_)
    exact L1 A0 _ hp (FA_s hA hL1 hP1)
  refine V.aload0 h 1 dX4_init_0 rfl (V.objInit h 4 dX4_init_1 rfl k14 (Nat.le_of_ble_eq_true rfl) (Nat.le_of_ble_eq_true rfl) (V.aload0 h 5 dX4_init_4 rfl (V.bnX2 h (k + 2) 8 dX4_init_5 rfl rfl (by omega) k17 (Nat.le_of_ble_eq_true rfl) (Nat.le_of_ble_eq_true rfl) (V.dup h 9 dX4_init_8 rfl rfl (V.callINev (As := []) (st := [.ref _, .ref _]) h 12 dX4_init_9 rfl k21 k19 k20 k2 rfl hd_X2_init ⟨(Nat.le_of_ble_eq_true rfl), (Nat.le_of_ble_eq_true rfl), (Nat.le_of_ble_eq_true rfl), (Nat.le_of_ble_eq_true rfl)⟩ (Nat.le_of_ble_eq_true rfl) (c_X2_init (k := k + 1) (by rw [cu_ne (by omega)]; exact cu_self)) rfl (fun w9 hw9 => ?_))))))
  obtain ⟨C1, hL1, hP1, rfl⟩ := hw9
  rw [← cu_id ((hL1 k (by omega)).trans cu_self)]
  refine V.fX4 h 0 15 dX4_init_12 rfl hnm rfl k200 rfl rfl rfl rfl (wb_o (by omega)) rfl (V.at _ (wb_p (by omega)) (V.aload0 h 16 dX4_init_15 rfl (V.bnX1 h (k + 12) 19 dX4_init_16 rfl rfl (by omega) k120 (Nat.le_of_ble_eq_true rfl) (Nat.le_of_ble_eq_true rfl) (V.dup h 20 dX4_init_19 rfl rfl (V.aload0 h 21 dX4_init_20 rfl (V.gX4 h 0 24 dX4_init_21 rfl rfl k200 (wb_o (by omega)) rfl ?_))))))
  refine V.callINev (As := [.ref _]) (st := [.ref _, .ref _]) h 27 dX4_init_24 rfl k124 k122 k123 k3 rfl hd_X1_init ⟨(Nat.le_of_ble_eq_true rfl), (Nat.le_of_ble_eq_true rfl), (Nat.le_of_ble_eq_true rfl), (Nat.le_of_ble_eq_true rfl)⟩ (Nat.le_of_ble_eq_true rfl) (c_X1_init (k := k + 11) (by rw [cu_ne (by omega)]; exact cu_self)) rfl (fun w24 hw24 => ?_)
  obtain ⟨C2, hL2, hP2, rfl⟩ := hw24
  rw [← cu_id ((hL2 k (by omega)).trans cu_self)]
  refine V.fX4 h 1 30 dX4_init_27 rfl hnm rfl k201 rfl rfl rfl rfl (wb_o (by omega)) rfl (V.at _ (wb_p (by omega)) (V.aload0 h 31 dX4_init_30 rfl (V.bnX0 h (k + 15) 34 dX4_init_31 rfl rfl (by omega) k139 (Nat.le_of_ble_eq_true rfl) (Nat.le_of_ble_eq_true rfl) (V.dup h 35 dX4_init_34 rfl rfl (V.aload0 h 36 dX4_init_35 rfl (V.gX4 h 0 39 dX4_init_36 rfl rfl k200 (wb_o (by omega)) rfl (V.aload0 h 40 dX4_init_39 rfl ?_)))))))
  refine V.gX4 h 1 43 dX4_init_40 rfl rfl k201 (wb_o (by omega)) rfl (V.callINev (As := [.ref _, .ref _]) (st := [.ref _, .ref _]) h 46 dX4_init_43 rfl k143 k141 k142 k4 rfl hd_X0_init ⟨(Nat.le_of_ble_eq_true rfl), (Nat.le_of_ble_eq_true rfl), (Nat.le_of_ble_eq_true rfl), (Nat.le_of_ble_eq_true rfl)⟩ (Nat.le_of_ble_eq_true rfl) (c_X0_init (k := k + 14) (by rw [cu_ne (by omega), cu_self]) (by omega)) rfl (fun w43 hw43 => ?_))
  obtain rfl := hw43
  rw [cu_comm (by omega), cu_cu]
  refine V.fX4 h 2 49 dX4_init_46 rfl hnm rfl k202 rfl rfl rfl rfl (wb_o (by omega)) rfl (V.at _ (wb_p (by omega)) (V.aload0 h 50 dX4_init_49 rfl (V.bnX3 h (k + 16) 53 dX4_init_50 rfl rfl (by omega) k152 (Nat.le_of_ble_eq_true rfl) (Nat.le_of_ble_eq_true rfl) (V.dup h 54 dX4_init_53 rfl rfl (V.callINev (As := []) (st := [.ref _, .ref _]) h 57 dX4_init_54 rfl k156 k154 k155 k5 rfl hd_X3_init ⟨(Nat.le_of_ble_eq_true rfl), (Nat.le_of_ble_eq_true rfl), (Nat.le_of_ble_eq_true rfl), (Nat.le_of_ble_eq_true rfl)⟩ (Nat.le_of_ble_eq_true rfl) (c_X3_init (k := k + 15) (by rw [cu_ne (by omega)]; exact cu_self)) rfl (fun w54 hw54 => ?_))))))
  obtain ⟨C3, hL3, q1, q2, q3, q4, q5, q6, rfl⟩ := hw54
  rw [← cu_id ((hL3 k (by omega)).trans cu_self)]
  refine V.fX4 h 3 60 dX4_init_57 rfl hnm rfl k203 rfl rfl rfl rfl (wb_o (by omega)) rfl (V.at _ (wb_p (by omega)) (V.aload0 h 61 dX4_init_60 rfl (V.iconst h 62 dX4_init_61 rfl ic1_5 (V.bap h 5 (k + 33) 65 dX4_init_62 rfl rfl (by omega) k17 (by decide) rfl (Nat.le_of_ble_eq_true rfl) (Nat.le_of_ble_eq_true rfl) (Nat.le_of_ble_eq_true rfl) (V.fX4 h 4 68 dX4_init_65 rfl hnm rfl k204 rfl rfl rfl rfl (wb_o (by omega)) rfl (V.at _ (wb_p (by omega)) (V.iconst h 69 dX4_init_68 rfl ic1_0 ?_)))))))
  refine V.istore1 h 70 dX4_init_69 rfl rfl ?_
  refine L0 C3 _ ⟨?_, ?_, ?_, ?_, q1, q2, q3, q4, q5, q6⟩ ⟨cu_self, fun q hq => absurd hq (by omega), fun i hi hk => cu_ne (by omega)⟩
  · intro i hi
    rw [hL3 _ (by omega)]; repeat rw [cu_ne (by omega)]
    rw [hL2 _ (by omega)]; repeat rw [cu_ne (by omega)]
    rw [hL1 _ (by omega)]; repeat rw [cu_ne (by omega)]
  · intro t ht
    rw [hL3 _ (by omega)]; repeat rw [cu_ne (by omega)]
    rw [hL2 _ (by omega)]; repeat rw [cu_ne (by omega)]
    exact hP1 t ht
  · intro t ht
    rw [hL3 _ (by omega)]; repeat rw [cu_ne (by omega)]
    exact hP2 t ht
  · rw [hL3 _ (by omega)]; repeat rw [cu_ne (by omega)]
    rw [cu_self]
