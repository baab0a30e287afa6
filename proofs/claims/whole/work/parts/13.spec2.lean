/-! paths, the start -/
theorem path_inj32 : ∀ l, l < 32 → ∀ j, j < 6 → ∀ k, k < 6 → j ≠ k → pathB 32 l j ≠ pathB 32 l k := by decide +kernel
theorem path_inj4 : ∀ l, l < 4 → ∀ j, j < 3 → ∀ k, k < 3 → j ≠ k → pathB 4 l j ≠ pathB 4 l k := by decide +kernel
theorem pathB_ne {lc lvs nb nk l j k : Nat} (hT : TP lc lvs nb nk) (hl : l < lc) (hj : j < lvs) (hk : k < lvs) (h : j ≠ k) : pathB lc l j ≠ pathB lc l k := by
  rcases hT with ⟨rfl, rfl, -, -⟩ | ⟨rfl, rfl, -, -⟩
  · exact path_inj4 l hl j hj k hk h
  · exact path_inj32 l hl j hj k hk h
theorem zpS_at {lc lvs nb nk l : Nat} {S : Nat → Nat → Int32} (hT : TP lc lvs nb nk) (hl : l < lc) {j : Nat} (hj : j < lvs) : ∀ k, k ≤ j → zpS lc l S k (pathB lc l j) = S (pathB lc l j)
  | 0, _ => rfl
  | k + 1, hk => by
    show setRow (zpS lc l S k) (pathB lc l k) zrow (pathB lc l j) = S (pathB lc l j)
    rw [setRow_n (pathB_ne hT hl hj (by omega) (by omega)), zpS_at hT hl hj k (by omega)]
theorem decR_zp {lc lvs nb nk l k : Nat} {S : Nat → Nat → Int32} {key num : Int32} {C : Nat → Int32} (hT : TP lc lvs nb nk) (hl : l < lc) (hk : k < lvs) : decR key num C (zpS lc l S k) (pathB lc l k) = rowsP key num C S lc l k := by
  funext i
  show zpS lc l S k (pathB lc l k) i ^^^ _ = S (pathB lc l k) i ^^^ _
  rw [zpS_at hT hl hk k (Nat.le_refl k)]
/-- put back: what the store has on the path above -/
theorem pbN_S {lc lvs nb nk l : Nat} {key num : Int32} {L : Nat → Int32} {Wd : Nat → Nat → Int32} {S : Nat → Nat → Int32} {C O : Nat → Int32} (hT : TP lc lvs nb nk) (hl : l < lc) {j : Nat} (hj : j < lvs) : ∀ k, k ≤ j → (pbN key num lc nk l L Wd S C O k).1 (pathB lc l j) = S (pathB lc l j)
  | 0, _ => rfl
  | k + 1, hk => by
    show setRow (pbN key num lc nk l L Wd S C O k).1 (pathB lc l k) _ (pathB lc l j) = S (pathB lc l j)
    rw [setRow_n (pathB_ne hT hl hj (by omega) (by omega)), pbN_S hT hl hj k (by omega)]
theorem fill_sub {lc up b : Nat} {L : Nat → Int32} {Wd : Nat → Nat → Int32} {w0 O : Nat → Int32} {P : Nat → Prop} (h : ∀ n, O n ≠ 0 → P n) : ∀ k n, (fillN lc up b L Wd w0 O k).2.1 n ≠ 0 → P n
  | 0, n, hn => h n hn
  | k + 1, n, hn => by
    rw [fillN] at hn
    by_cases hc : (fillN lc up b L Wd w0 O k).2.2 < 4 ∧ (fillN lc up b L Wd w0 O k).2.1 k ≠ 0 ∧ pathB lc (L k).toNatClampNeg up = b
    · rw [if_pos hc] at hn
      by_cases hnk : n = k
      · subst hnk; exact absurd (pk_us (f := (fillN lc up b L Wd w0 O n).2.1)) hn
      · exact fill_sub h k n (by
          have e : upd (fillN lc up b L Wd w0 O k).2.1 k 0 n = (fillN lc up b L Wd w0 O k).2.1 n := pk_un hnk
          rw [← e]; exact hn)
    · rw [if_neg hc] at hn; exact fill_sub h k n hn
theorem pb_sub {lc nk l : Nat} {key num : Int32} {L : Nat → Int32} {Wd : Nat → Nat → Int32} {S : Nat → Nat → Int32} {C O : Nat → Int32} {P : Nat → Prop} (h : ∀ n, O n ≠ 0 → P n) : ∀ k n, (pbN key num lc nk l L Wd S C O k).2.2 n ≠ 0 → P n
  | 0, n, hn => h n hn
  | k + 1, n, hn => fill_sub (fun n q => pb_sub h k n q) nk n hn
/-- the blocks settled one by one -/
def saN (lc lvs : Nat) (L : Nat → Int32) (Wd : Nat → Nat → Int32) (S : Nat → Nat → Int32) (O : Nat → Int32) : Nat → (Nat → Nat → Int32) × (Nat → Int32)
  | 0 => (S, O)
  | n + 1 => (stS lc lvs (L n).toNatClampNeg n (L n) (Wd n) (saN lc lvs L Wd S O n).1, stO lc lvs (L n).toNatClampNeg n (saN lc lvs L Wd S O n).1 (saN lc lvs L Wd S O n).2)
/-- the first k buckets sealed -/
def seK (key num : Int32) (C : Nat → Int32) (S : Nat → Nat → Int32) (k : Nat) : Nat → Nat → Int32 := fun b => if b < k then sealR key num (C b) b (S b) else S b
theorem seK_0 {key num : Int32} {C : Nat → Int32} {S : Nat → Nat → Int32} : seK key num C S 0 = S := by funext b; simp [seK]
theorem seK_at {key num : Int32} {C : Nat → Int32} {S : Nat → Nat → Int32} {k : Nat} : seK key num C S k k = S k := by simp [seK]
theorem seK_s {key num : Int32} {C : Nat → Int32} {S : Nat → Nat → Int32} {k : Nat} : setRow (seK key num C S k) k (sealR key num (C k) k (S k)) = seK key num C S (k + 1) := by
  funext b
  by_cases h : b = k
  · subst h; simp [setRow, seK]
  · have h1 : (b < k + 1) = (b < k) := by apply propext; omega
    simp [setRow, h, seK, h1]
theorem st_y {lc lvs l n up sl : Nat} {lf : Int32} {wd : Nat → Int32} {S : Nat → Nat → Int32} {O : Nat → Int32} (hu : up < lvs) (hs : sl < 4) (h0 : S (pathB lc l up) (6 * sl) = 0) (hf : ∀ j, j < 4 * up + sl → ¬ S (pathB lc l (j / 4)) (6 * (j % 4)) = 0) :
    stS lc lvs l n lf wd S = setRow S (pathB lc l up) (putR (S (pathB lc l up)) sl n lf wd) ∧ stO lc lvs l n S O = upd O n 0 := by
  have e1 : (4 * up + sl) / 4 = up := by omega
  have e2 : (4 * up + sl) % 4 = sl := by omega
  have hq : stQ lc lvs l S = 4 * up + sl := by
    refine ff_at (by omega) ?_ (fun j hj => ?_)
    · show decide (S (pathB lc l ((4 * up + sl) / 4)) (6 * ((4 * up + sl) % 4)) = 0) = true
      rw [e1, e2]; simpa using h0
    · show decide (S (pathB lc l (j / 4)) (6 * (j % 4)) = 0) = false
      simpa using hf j hj
  have hlt : 4 * up + sl < 4 * lvs := by omega
  refine ⟨?_, ?_⟩
  · rw [stS, hq, if_pos hlt, e1, e2]
  · rw [stO, hq, if_pos hlt]
theorem st_n {lc lvs l n : Nat} {lf : Int32} {wd : Nat → Int32} {S : Nat → Nat → Int32} {O : Nat → Int32} (hf : ∀ j, j < 4 * lvs → ¬ S (pathB lc l (j / 4)) (6 * (j % 4)) = 0) :
    stS lc lvs l n lf wd S = S ∧ stO lc lvs l n S O = O := by
  have hq : stQ lc lvs l S = 4 * lvs := by
    refine ff_no (fun j hj => ?_)
    show decide (S (pathB lc l (j / 4)) (6 * (j % 4)) = 0) = false
    simpa using hf j hj
  exact ⟨by rw [stS, hq, if_neg (Nat.lt_irrefl _)], by rw [stO, hq, if_neg (Nat.lt_irrefl _)]⟩
