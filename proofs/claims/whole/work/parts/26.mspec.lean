/-! the reference: its rows hold both trees one behind the other -/
def jn {α : Type} (n : Nat) (a b : Nat → α) : Nat → α := fun p => if p < n then a p else b (p - n)
theorem jn_0 {α : Type} {n p : Nat} {a b : Nat → α} (h : p < n) : jn n a b p = a p := by simp [jn, h]
theorem jn_1 {α : Type} {n p : Nat} {a b : Nat → α} : jn n a b (n + p) = b p := by
  have h : ¬ n + p < n := by omega
  simp [jn, h]
theorem jn_u0 {n p : Nat} {a b : Nat → Int32} {x : Int32} (h : p < n) : upd (jn n a b) p x = jn n (upd a p x) b := by
  funext j
  by_cases hj : j = p
  · subst hj; rw [jn_0 h]; simp [upd]
  · by_cases hn : j < n
    · simp [upd, hj, jn, hn]
    · simp [upd, hj, jn, hn]
theorem jn_u1 {n p : Nat} {a b : Nat → Int32} {x : Int32} : upd (jn n a b) (n + p) x = jn n a (upd b p x) := by
  funext j
  by_cases hj : j = n + p
  · subst hj; rw [jn_1]; simp [upd]
  · by_cases hn : j < n
    · simp [upd, hj, jn, hn]
    · have h2 : ¬ j - n = p := by omega
      simp [upd, hj, jn, hn, h2]
theorem jn_r0 {n p : Nat} {a b : Nat → Nat → Int32} {P : Nat → Int32} (h : p < n) : setRow (jn n a b) p P = jn n (setRow a p P) b := by
  funext j
  by_cases hj : j = p
  · subst hj; rw [jn_0 h, setRow_s, setRow_s]
  · rw [setRow_n hj]
    by_cases hn : j < n
    · rw [jn_0 hn, jn_0 hn, setRow_n hj]
    · simp [jn, hn]
theorem jn_r1 {n p : Nat} {a b : Nat → Nat → Int32} {P : Nat → Int32} : setRow (jn n a b) (n + p) P = jn n a (setRow b p P) := by
  funext j
  by_cases hj : j = n + p
  · subst hj; rw [jn_1, setRow_s, setRow_s]
  · rw [setRow_n hj]
    by_cases hn : j < n
    · simp [jn, hn]
    · have h2 : j - n ≠ p := by omega
      simp only [jn, if_neg hn, setRow_n h2]
theorem rS0 {a b : Nat → Nat → Int32} {n p i k : Nat} (h : p < n) (hi : i < 25) (hk : k = 25 * p + i) : fl25 (jn n a b) k = a p i := by rw [fl25_eq hk hi, jn_0 h]
theorem rS1 {a b : Nat → Nat → Int32} {n p i k : Nat} (hi : i < 25) (hk : k = 25 * (n + p) + i) : fl25 (jn n a b) k = b p i := by rw [fl25_eq hk hi, jn_1]
theorem uS0 {a b : Nat → Nat → Int32} {n p i k : Nat} {x : Int32} (h : p < n) (hi : i < 25) (hk : k = 25 * p + i) : upd (fl25 (jn n a b)) k x = fl25 (jn n (setRow a p (upd (a p) i x)) b) := by rw [fl25_up hk hi, jn_0 h, jn_r0 h]
theorem uS1 {a b : Nat → Nat → Int32} {n p i k : Nat} {x : Int32} (hi : i < 25) (hk : k = 25 * (n + p) + i) : upd (fl25 (jn n a b)) k x = fl25 (jn n a (setRow b p (upd (b p) i x))) := by rw [fl25_up hk hi, jn_1, jn_r1]
theorem rW0 {a b : Nat → Nat → Int32} {n p i k : Nat} (h : p < n) (hi : i < 4) (hk : k = 4 * p + i) : fl4 (jn n a b) k = a p i := by rw [fl4_eq hk hi, jn_0 h]
theorem rW1 {a b : Nat → Nat → Int32} {n p i k : Nat} (hi : i < 4) (hk : k = 4 * (n + p) + i) : fl4 (jn n a b) k = b p i := by rw [fl4_eq hk hi, jn_1]
theorem uW0 {a b : Nat → Nat → Int32} {n p i k : Nat} {x : Int32} (h : p < n) (hi : i < 4) (hk : k = 4 * p + i) : upd (fl4 (jn n a b)) k x = fl4 (jn n (setRow a p (upd (a p) i x)) b) := by rw [fl4_up hk hi, jn_0 h, jn_r0 h]
theorem uW1 {a b : Nat → Nat → Int32} {n p i k : Nat} {x : Int32} (hi : i < 4) (hk : k = 4 * (n + p) + i) : upd (fl4 (jn n a b)) k x = fl4 (jn n a (setRow b p (upd (b p) i x))) := by rw [fl4_up hk hi, jn_1, jn_r1]
/-- a row's first 24 words count for a seal -/
theorem sealR_congr {key num cb : Int32} {b i : Nat} {w w' : Nat → Int32} (h : ∀ j, j < 24 → w j = w' j) (hi : i < 25) : sealR key num cb b w i = sealR key num cb b w' i := by
  have hm : ∀ j, j < 24 → maskR key num cb b w 24 j = maskR key num cb b w' 24 j := fun j hj => by simp [maskR, hj, h j hj]
  by_cases h24 : i = 24
  · subst h24
    rw [sealR, sealR, pk_us, pk_us]
    exact tagN_congr hm
  · rw [sealR, sealR, pk_un h24, pk_un h24]
    exact hm i (by omega)
theorem fl25_rows {S : Nat → Nat → Int32} {a : Nat} {P P' : Nat → Int32} (h : ∀ i, i < 25 → P i = P' i) : fl25 (setRow S a P) = fl25 (setRow S a P') := by
  refine fl25_congr (fun b i hi => ?_)
  by_cases hb : b = a
  · subst hb; rw [setRow_s, setRow_s]; exact h i hi
  · rw [setRow_n hb, setRow_n hb]
/-- the masked words laid one by one -/
theorem mi_seal {key num cb : Int32} {b : Nat} {w PL : Nat → Int32} : upd (miK w (fun j => PL j ^^^ padF key num cb b j) 24) 24 (tagF key num cb b (miK w (fun j => PL j ^^^ padF key num cb b j) 24)) = sealR key num cb b (miK w PL 24) := by
  have h : miK w (fun j => PL j ^^^ padF key num cb b j) 24 = maskR key num cb b (miK w PL 24) 24 := by
    funext j
    by_cases hj : j < 24
    · simp [miK, maskR, hj]
    · simp [miK, maskR, hj]
  rw [h]; rfl
theorem path0 {lc l : Nat} (h : 1 ≤ lc) : lc - 1 + l = pathB lc l 0 := by simp only [pathB, Nat.pow_zero, Nat.div_one]; omega
theorem path_st32 : ∀ l, l < 32 → ∀ k, k < 5 → 1 ≤ pathB 32 l k ∧ (pathB 32 l k - 1) / 2 = pathB 32 l (k + 1) := by decide +kernel
theorem path_st4 : ∀ l, l < 4 → ∀ k, k < 2 → 1 ≤ pathB 4 l k ∧ (pathB 4 l k - 1) / 2 = pathB 4 l (k + 1) := by decide +kernel
theorem path_lev32 : ∀ l, l < 32 → ∀ l', l' < 32 → ∀ k, k < 6 → ∀ j, j < 6 → pathB 32 l' j = pathB 32 l k → j = k := by decide +kernel
theorem path_lev4 : ∀ l, l < 4 → ∀ l', l' < 4 → ∀ k, k < 3 → ∀ j, j < 3 → pathB 4 l' j = pathB 4 l k → j = k := by decide +kernel
