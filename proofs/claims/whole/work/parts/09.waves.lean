/-! waves: they come to an end -/
theorem ua_ua (P : Pl) (f : Nat) (g g' : Nat → Int32) : ua (ua P f g) f g' = ua P f g' := by
  funext i; unfold ua; by_cases h : i = f <;> simp [h]
theorem us_us (P : Pl) (f : Nat) (v v' : Int32) : us (us P f v) f v' = us P f v' := by
  funext i; unfold us; by_cases h : i = f <;> simp [h]
theorem ua_id (P : Pl) (f : Nat) : ua P f (P f) = P := by
  funext i; unfold ua; by_cases h : i = f
  · subst h; simp
  · simp [h]
theorem us_ua (P : Pl) {f f' : Nat} (g : Nat → Int32) (v : Int32) (h : f ≠ f') : us (ua P f' g) f v = ua (us P f v) f' g := by
  funext i; unfold ua us
  by_cases h1 : i = f
  · subst h1; simp [h]
  · by_cases h2 : i = f'
    · subst h2; simp [h1]
    · simp [h1, h2]
theorem us_comm (P : Pl) {f f' : Nat} (v v' : Int32) (h : f ≠ f') : us (us P f v) f' v' = us (us P f' v') f v := by
  funext i; unfold us
  by_cases h1 : i = f
  · subst h1; simp [h]
  · by_cases h2 : i = f'
    · subst h2; simp [h1]
    · simp [h1, h2]
theorem ua_comm (P : Pl) {f f' : Nat} (v v' : Nat → Int32) (h : f ≠ f') : ua (ua P f v) f' v' = ua (ua P f' v') f v := by
  funext i; unfold ua
  by_cases h1 : i = f
  · subst h1; simp [h]
  · by_cases h2 : i = f'
    · subst h2; simp [h1]
    · simp [h1, h2]
theorem and_not0 (a : Int32) : a &&& (0 ^^^ (-1)) = a := by
  apply bt_ext; intro i hi; rw [bt_and, bt_not _ hi, bt_0]; simp
def nbc (f : Nat → Bool) : Nat → Nat
  | 0 => 0
  | n + 1 => nbc f n + (if f n = true then 1 else 0)
theorem nbc_le (f : Nat → Bool) : ∀ n, nbc f n ≤ n
  | 0 => Nat.le_refl 0
  | n + 1 => by
    have := nbc_le f n
    rw [nbc]; split <;> omega
theorem nbc_mono {f g : Nat → Bool} : ∀ {n : Nat}, (∀ k, k < n → f k = true → g k = true) → nbc f n ≤ nbc g n
  | 0, _ => Nat.le_refl 0
  | n + 1, h => by
    have h1 := nbc_mono (f := f) (g := g) (n := n) (fun k hk => h k (by omega))
    have h2 := h n (by omega)
    rw [nbc, nbc]
    cases hf : f n <;> cases hg : g n <;> simp_all <;> omega
theorem nbc_lt {f g : Nat → Bool} {j : Nat} : ∀ {n : Nat}, (∀ k, k < n → f k = true → g k = true) → j < n → f j = false → g j = true → nbc f n < nbc g n
  | 0, _, h, _, _ => absurd h (by omega)
  | n + 1, h, hj, hf, hg => by
    have h1 := nbc_mono (f := f) (g := g) (n := n) (fun k hk => h k (by omega))
    have h2 := h n (by omega)
    rw [nbc, nbc]
    by_cases hjn : j = n
    · subst hjn
      simp only [hf, hg]
      simp
      omega
    · have h3 := nbc_lt (f := f) (g := g) (n := n) (fun k hk => h k (by omega)) (by omega) hf hg
      cases hf : f n <;> cases hg : g n <;> simp_all <;> omega
theorem nbc_pos {f : Nat → Bool} {j n : Nat} (hj : j < n) (hf : f j = true) : 0 < nbc f n := by
  have h0 : nbc (fun _ => false) n = 0 := by
    induction n with
    | zero => rfl
    | succ n ih =>
      by_cases h : j < n
      · rw [nbc, ih h]; rfl
      · clear ih
        have : ∀ n, nbc (fun _ => false) n = 0 := fun n => by
          induction n with
          | zero => rfl
          | succ n ih => rw [nbc, ih]; rfl
        exact this _
  have := nbc_lt (f := fun _ => false) (g := f) (n := n) (fun k _ h => by cases h) hj rfl hf
  omega
section WV
variable {P : Pl} {x : Ex} {S C : Int32}
theorem fal_bt (k : Nat) : Bt (fal P x S C) k = (decide (k < 12) && (Bt S k && !hld P x k (S ||| C))) := bt_mk _ _ _ (by decide)
theorem fal_sub {k : Nat} (h : Bt (fal P x S C) k = true) : k < 12 ∧ Bt S k = true := by
  rw [fal_bt, Bool.and_eq_true, Bool.and_eq_true] at h
  exact ⟨of_decide_eq_true h.1, h.2.1⟩
theorem fal_ex (h : fal P x S C ≠ 0) : ∃ k, k < 12 ∧ Bt (fal P x S C) k = true := by
  apply Classical.byContradiction
  intro hn
  apply h
  apply bt_ext
  intro k _
  rw [bt_0]
  cases hb : Bt (fal P x S C) k
  · rfl
  · exact absurd ⟨k, (fal_sub hb).1, hb⟩ hn
theorem gs_s (n : Nat) : gs P x C (n + 1) S = gs P x C n S &&& (fal P x (gs P x C n S) C ^^^ (-1)) := rfl
theorem gs_sub : ∀ (n : Nat) {k : Nat}, Bt (gs P x C n S) k = true → Bt S k = true
  | 0, _, h => h
  | n + 1, k, h => by
    rw [gs_s, bt_and, Bool.and_eq_true] at h
    exact gs_sub n h.1
theorem gs_lo (h : lo12 S) (n : Nat) : lo12 (gs P x C n S) := fun k hk => by
  cases hb : Bt (gs P x C n S) k
  · rfl
  · have := gs_sub n hb
    rw [h k hk] at this
    cases this
theorem gs_stop {n : Nat} (h : fal P x (gs P x C n S) C = 0) : ∀ m, gs P x C (n + m) S = gs P x C n S
  | 0 => rfl
  | m + 1 => by
    rw [← Nat.add_assoc, gs_s, gs_stop h m, h, and_not0]
theorem gs_stop' {n m : Nat} (h : fal P x (gs P x C n S) C = 0) (hm : n ≤ m) : gs P x C m S = gs P x C n S := by
  obtain ⟨d, rfl⟩ : ∃ d, m = n + d := ⟨m - n, by omega⟩
  exact gs_stop h d
theorem fal_stop {n m : Nat} (h : fal P x (gs P x C n S) C = 0) (hm : n ≤ m) : fal P x (gs P x C m S) C = 0 := by rw [gs_stop' h hm, h]
theorem gs_nb {N n : Nat} (hN : 12 ≤ N) (h : ∀ i, i < n → fal P x (gs P x C i S) C ≠ 0) : nbc (Bt (gs P x C n S)) N + n ≤ N := by
  induction n with
  | zero => rw [Nat.add_zero]; exact nbc_le _ N
  | succ n ih =>
    have h1 := ih (fun i hi => h i (by omega))
    obtain ⟨k, hk, hb⟩ := fal_ex (h n (by omega))
    have h2 : nbc (Bt (gs P x C (n + 1) S)) N < nbc (Bt (gs P x C n S)) N := by
      refine nbc_lt (j := k) (fun i hi h => ?_) (by omega) ?_ (fal_sub hb).2
      · rw [gs_s, bt_and, Bool.and_eq_true] at h
        exact h.1
      · rw [gs_s, bt_and, bt_not _ (by omega), hb]; simp
    omega
/-- behind twelve waves none falls -/
theorem fal_end : fal P x (gs P x C 12 S) C = 0 := by
  apply Classical.byContradiction
  intro h
  have h1 : ∀ i, i < 12 → fal P x (gs P x C i S) C ≠ 0 := fun i hi h0 => h (fal_stop h0 (by omega))
  obtain ⟨N, hN⟩ : ∃ N, N = 12 := ⟨_, rfl⟩
  have h2 := gs_nb (N := N) (by omega) h1
  obtain ⟨k, hk, hb⟩ := fal_ex h
  have h3 := nbc_pos (n := N) (by omega) (fal_sub hb).2
  omega
theorem fal_le12 {n : Nat} (h : ∀ i, i < n → fal P x (gs P x C i S) C ≠ 0) : n ≤ 12 := by
  obtain ⟨N, hN⟩ : ∃ N, N = 12 := ⟨_, rfl⟩
  have := gs_nb (N := N) (by omega) h
  omega
theorem gs_grt {n : Nat} (h : fal P x (gs P x C n S) C = 0) (hn : n ≤ 12) : gs P x C n S = grt P x S C := (gs_stop' h hn).symm
theorem nw_all {n : Nat} (h : ∀ i, i < n → fal P x (gs P x C i S) C ≠ 0) : nw P x S C n = n := by
  induction n with
  | zero => rfl
  | succ n ih => rw [nw, if_neg (h n (by omega))]
theorem nw_end {n : Nat} (h : ∀ i, i < n → fal P x (gs P x C i S) C ≠ 0) (h0 : fal P x (gs P x C n S) C = 0) : ∀ m, nw P x S C (n + m) = n
  | 0 => nw_all h
  | m + 1 => by rw [← Nat.add_assoc, nw, if_pos (fal_stop h0 (by omega)), nw_end h h0 m]
theorem wvm_end {old : Nat → Int32} {n : Nat} (h0 : fal P x (gs P x C n S) C = 0) : ∀ m, wvm P x S C old (n + m) = wvm P x S C old n
  | 0 => rfl
  | m + 1 => by
    rw [← Nat.add_assoc, wvm, fal_stop h0 (by omega)]
    funext k
    rw [bt_0, Bool.and_false, if_neg (by decide), wvm_end h0 m]
end WV
