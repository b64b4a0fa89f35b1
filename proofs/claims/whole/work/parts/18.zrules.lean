section ZZ
variable {w : Wd} {b : Nat} {M : Pl} {s : Nat → Int32}
theorem zo : (mz w b M s).2 b = some (.inr (5, mfl b M)) := mo (M := ua M 0 s)
theorem za2 : (mz w b M s).2 (b + 2) = some (ints 125 (M 1)) := ma2 (M := ua M 0 s)
theorem zw2 {f : Nat → Int32} : wset (mz w b M s) (b + 2) (ints 125 f) = mz w b (ua M 1 f) s := by
  rw [mw2, ua_comm _ _ _ (by decide)]
theorem za3 : (mz w b M s).2 (b + 3) = some (ints 500 (M 2)) := ma3 (M := ua M 0 s)
theorem zw3 {f : Nat → Int32} : wset (mz w b M s) (b + 3) (ints 500 f) = mz w b (ua M 2 f) s := by
  rw [mw3, ua_comm _ _ _ (by decide)]
theorem za4 : (mz w b M s).2 (b + 4) = some (ints 80 (M 4)) := ma4 (M := ua M 0 s)
theorem zw4 {f : Nat → Int32} : wset (mz w b M s) (b + 4) (ints 80 f) = mz w b (ua M 4 f) s := by
  rw [mw4, ua_comm _ _ _ (by decide)]
theorem za5 : (mz w b M s).2 (b + 5) = some (ints 12 (M 8)) := ma5 (M := ua M 0 s)
theorem zw5 {f : Nat → Int32} : wset (mz w b M s) (b + 5) (ints 12 f) = mz w b (ua M 8 f) s := by
  rw [mw5, ua_comm _ _ _ (by decide)]
theorem za6 : (mz w b M s).2 (b + 6) = some (ints 5 (M 14)) := ma6 (M := ua M 0 s)
theorem zw6 {f : Nat → Int32} : wset (mz w b M s) (b + 6) (ints 5 f) = mz w b (ua M 14 f) s := by
  rw [mw6, ua_comm _ _ _ (by decide)]
theorem zp3 {v : Int32} : wset (mz w b M s) b (.inr (5, (mfl b M).set 3 (.int v))) = mz w b (us M 3 v) s :=
  (mp3 (M := ua M 0 s)).trans (z_us (by decide))
theorem zp5 {v : Int32} : wset (mz w b M s) b (.inr (5, (mfl b M).set 5 (.int v))) = mz w b (us M 5 v) s :=
  (mp5 (M := ua M 0 s)).trans (z_us (by decide))
theorem zp6 {v : Int32} : wset (mz w b M s) b (.inr (5, (mfl b M).set 6 (.int v))) = mz w b (us M 6 v) s :=
  (mp6 (M := ua M 0 s)).trans (z_us (by decide))
theorem zp7 {v : Int32} : wset (mz w b M s) b (.inr (5, (mfl b M).set 7 (.int v))) = mz w b (us M 7 v) s :=
  (mp7 (M := ua M 0 s)).trans (z_us (by decide))
theorem zp9 {v : Int32} : wset (mz w b M s) b (.inr (5, (mfl b M).set 9 (.int v))) = mz w b (us M 9 v) s :=
  (mp9 (M := ua M 0 s)).trans (z_us (by decide))
theorem zp10 {v : Int32} : wset (mz w b M s) b (.inr (5, (mfl b M).set 10 (.int v))) = mz w b (us M 10 v) s :=
  (mp10 (M := ua M 0 s)).trans (z_us (by decide))
theorem zp11 {v : Int32} : wset (mz w b M s) b (.inr (5, (mfl b M).set 11 (.int v))) = mz w b (us M 11 v) s :=
  (mp11 (M := ua M 0 s)).trans (z_us (by decide))
theorem zp12 {v : Int32} : wset (mz w b M s) b (.inr (5, (mfl b M).set 12 (.int v))) = mz w b (us M 12 v) s :=
  (mp12 (M := ua M 0 s)).trans (z_us (by decide))
theorem zp13 {v : Int32} : wset (mz w b M s) b (.inr (5, (mfl b M).set 13 (.int v))) = mz w b (us M 13 v) s :=
  (mp13 (M := ua M 0 s)).trans (z_us (by decide))
end ZZ
