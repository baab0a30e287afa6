/-! the words for the state: rows of 25 sealed words, rows of 4 words of a block; what each method does to them -/
def ush (x k : Int32) : Int32 := (x.toUInt32 >>> (k.toUInt32 &&& Int32.toUInt32 31)).toInt32
def setRow (S : Nat → Nat → Int32) (b : Nat) (P : Nat → Int32) : Nat → Nat → Int32 := fun b' => if b' = b then P else S b'
def fl25 (S : Nat → Nat → Int32) : Nat → Int32 := fun j => S (j / 25) (j % 25)
def fl4 (S : Nat → Nat → Int32) : Nat → Int32 := fun j => S (j / 4) (j % 4)
theorem setRow_s {S : Nat → Nat → Int32} {b : Nat} {P : Nat → Int32} : setRow S b P b = P := by simp [setRow]
theorem setRow_n {S : Nat → Nat → Int32} {b b' : Nat} {P : Nat → Int32} (h : b' ≠ b) : setRow S b P b' = S b' := by simp [setRow, h]
theorem setRow_id {S : Nat → Nat → Int32} {b : Nat} : setRow S b (S b) = S := by funext x; by_cases h : x = b <;> simp [setRow, h]
theorem setRow_2 {S : Nat → Nat → Int32} {b : Nat} {P P' : Nat → Int32} : setRow (setRow S b P) b P' = setRow S b P' := by funext x; by_cases h : x = b <;> simp [setRow, h]
theorem fl25_eq {S : Nat → Nat → Int32} {k b i : Nat} (hk : k = 25 * b + i) (hi : i < 25) : fl25 S k = S b i := by
  have h1 : k / 25 = b := by omega
  have h2 : k % 25 = i := by omega
  show S (k / 25) (k % 25) = S b i
  rw [h1, h2]
theorem fl4_eq {S : Nat → Nat → Int32} {k b i : Nat} (hk : k = 4 * b + i) (hi : i < 4) : fl4 S k = S b i := by
  have h1 : k / 4 = b := by omega
  have h2 : k % 4 = i := by omega
  show S (k / 4) (k % 4) = S b i
  rw [h1, h2]
theorem fl25_up {S : Nat → Nat → Int32} {k b i : Nat} {x : Int32} (hk : k = 25 * b + i) (hi : i < 25) : upd (fl25 S) k x = fl25 (setRow S b (upd (S b) i x)) := by
  funext j
  by_cases h : j = k
  · subst h
    rw [fl25_eq hk hi]
    simp [upd, setRow]
  · have h2 : upd (fl25 S) k x j = fl25 S j := by simp [upd, h]
    rw [h2]
    show S (j / 25) (j % 25) = setRow S b (upd (S b) i x) (j / 25) (j % 25)
    by_cases hb : j / 25 = b
    · have hi2 : j % 25 ≠ i := by omega
      simp [setRow, hb, upd, hi2]
    · rw [setRow_n hb]
theorem fl4_up {S : Nat → Nat → Int32} {k b i : Nat} {x : Int32} (hk : k = 4 * b + i) (hi : i < 4) : upd (fl4 S) k x = fl4 (setRow S b (upd (S b) i x)) := by
  funext j
  by_cases h : j = k
  · subst h
    rw [fl4_eq hk hi]
    simp [upd, setRow]
  · have h2 : upd (fl4 S) k x j = fl4 S j := by simp [upd, h]
    rw [h2]
    show S (j / 4) (j % 4) = setRow S b (upd (S b) i x) (j / 4) (j % 4)
    by_cases hb : j / 4 = b
    · have hi2 : j % 4 ≠ i := by omega
      simp [setRow, hb, upd, hi2]
    · rw [setRow_n hb]
theorem fl25_congr {S S' : Nat → Nat → Int32} (h : ∀ b i, i < 25 → S b i = S' b i) : fl25 S = fl25 S' := by
  funext j
  exact h _ _ (Nat.mod_lt _ (by decide))
theorem fl4_congr {S S' : Nat → Nat → Int32} (h : ∀ b i, i < 4 → S b i = S' b i) : fl4 S = fl4 S' := by
  funext j
  exact h _ _ (Nat.mod_lt _ (by decide))
/-- the mixing of PAD -/
def padM (h : Int32) : Int32 :=
  let h1 := h ^^^ ush h 15
  let h2 := h1 * 739982445
  let h3 := h2 ^^^ ush h2 12
  let h4 := h3 * 695872825
  h4 ^^^ ush h4 15
/-- PAD(i) of the bucket b of the tree number num, its counter cb -/
def padF (key num cb : Int32) (b i : Nat) : Int32 :=
  padM (((key ^^^ (64 * num + nI b + 1) * (-1640531535)) ^^^ cb * (-2048144777)) ^^^ (nI i + 1) * (-1028477379))
/-- the tag over the first k words of a row -/
def tagN (p : Int32) (w : Nat → Int32) : Nat → Int32
  | 0 => p
  | k + 1 => (tagN p w k ^^^ w k) * 16777619
theorem tagN_congr {p : Int32} {w w' : Nat → Int32} : ∀ {k : Nat}, (∀ i, i < k → w i = w' i) → tagN p w k = tagN p w' k
  | 0, _ => rfl
  | k + 1, h => by rw [tagN, tagN, tagN_congr (fun i hi => h i (by omega)), h k (by omega)]
/-- the tag that a row must bear -/
def tagF (key num cb : Int32) (b : Nat) (w : Nat → Int32) : Int32 := tagN (padF key num cb b 24) w 24
/-- the first k words of a row, masked -/
def maskR (key num cb : Int32) (b : Nat) (w : Nat → Int32) (k : Nat) : Nat → Int32 := fun i => if i < k then w i ^^^ padF key num cb b i else w i
/-- a plain row, sealed -/
def sealR (key num cb : Int32) (b : Nat) (w : Nat → Int32) : Nat → Int32 := upd (maskR key num cb b w 24) 24 (tagF key num cb b (maskR key num cb b w 24))
theorem maskR_0 {key num cb : Int32} {b : Nat} {w : Nat → Int32} : maskR key num cb b w 0 = w := by funext i; simp [maskR]
theorem maskR_s {key num cb : Int32} {b k : Nat} {w : Nat → Int32} : upd (maskR key num cb b w k) k (maskR key num cb b w k k ^^^ padF key num cb b k) = maskR key num cb b w (k + 1) := by
  funext i
  by_cases h : i = k
  · subst h; simp [upd, maskR]
  · have h1 : (i < k + 1) = (i < k) := by apply propext; omega
    simp [upd, h, maskR, h1]
/-- word i of a block in slot sl -/
def sloV (sl n : Nat) (lf : Int32) (wd : Nat → Int32) (i : Nat) : Int32 := if i = 6 * sl then nI (n + 1) else if i = 6 * sl + 1 then lf else wd (i - (6 * sl + 2))
/-- the first k words of a block laid into a row at a slot -/
def putK (w : Nat → Int32) (sl n : Nat) (lf : Int32) (wd : Nat → Int32) (k : Nat) : Nat → Int32 := fun i => if 6 * sl ≤ i ∧ i < 6 * sl + k then sloV sl n lf wd i else w i
/-- a block laid into a row at a slot -/
def putR (w : Nat → Int32) (sl n : Nat) (lf : Int32) (wd : Nat → Int32) : Nat → Int32 := putK w sl n lf wd 6
theorem putK_0 {w : Nat → Int32} {sl n : Nat} {lf : Int32} {wd : Nat → Int32} : putK w sl n lf wd 0 = w := by
  funext i
  have h : ¬ (6 * sl ≤ i ∧ i < 6 * sl + 0) := by omega
  simp only [putK, if_neg h]
theorem putK_s {w : Nat → Int32} {sl n k : Nat} {lf x : Int32} {wd : Nat → Int32} (hx : sloV sl n lf wd (6 * sl + k) = x) : upd (putK w sl n lf wd k) (6 * sl + k) x = putK w sl n lf wd (k + 1) := by
  subst hx
  funext i
  by_cases h : i = 6 * sl + k
  · subst h
    have h1 : 6 * sl ≤ 6 * sl + k ∧ 6 * sl + k < 6 * sl + (k + 1) := by omega
    simp only [upd, putK, if_pos h1, if_true]
  · by_cases h2 : 6 * sl ≤ i ∧ i < 6 * sl + k
    · have h3 : 6 * sl ≤ i ∧ i < 6 * sl + (k + 1) := by omega
      simp only [upd, if_neg h, putK, if_pos h2, if_pos h3]
    · have h3 : ¬ (6 * sl ≤ i ∧ i < 6 * sl + (k + 1)) := by omega
      simp only [upd, if_neg h, putK, if_neg h2, if_neg h3]
theorem sloV_0 {sl n : Nat} {lf : Int32} {wd : Nat → Int32} : sloV sl n lf wd (6 * sl + 0) = nI (n + 1) := by simp [sloV]
theorem sloV_1 {sl n : Nat} {lf : Int32} {wd : Nat → Int32} : sloV sl n lf wd (6 * sl + 1) = lf := by simp [sloV]
theorem sloV_2 {sl n k : Nat} {lf : Int32} {wd : Nat → Int32} : sloV sl n lf wd (6 * sl + (2 + k)) = wd k := by
  have h1 : ¬ 6 * sl + (2 + k) = 6 * sl := by omega
  have h2 : ¬ 6 * sl + (2 + k) = 6 * sl + 1 := by omega
  have h3 : 6 * sl + (2 + k) - (6 * sl + 2) = k := by omega
  simp only [sloV, if_neg h1, if_neg h2, h3]
/-- a number that is no block's -/
def noB (nk : Nat) (x : Int32) : Bool := decide (x < 0) || decide (nI nk ≤ x)
/-- what slot sl of an open row brings to the stash -/
def hoO (nk : Nat) (row : Nat → Int32) (sl : Nat) (O : Nat → Int32) : Nat → Int32 := if noB nk (row (6 * sl) - 1) = true then O else upd O (row (6 * sl) - 1).toNatClampNeg 1
def hoL (nk : Nat) (row : Nat → Int32) (sl : Nat) (L : Nat → Int32) : Nat → Int32 := if noB nk (row (6 * sl) - 1) = true then L else upd L (row (6 * sl) - 1).toNatClampNeg (row (6 * sl + 1))
def hoW (nk : Nat) (row : Nat → Int32) (sl : Nat) (Wd : Nat → Nat → Int32) : Nat → Nat → Int32 := if noB nk (row (6 * sl) - 1) = true then Wd else setRow Wd (row (6 * sl) - 1).toNatClampNeg (fun i => if i < 4 then row (6 * sl + 2 + i) else Wd (row (6 * sl) - 1).toNatClampNeg i)
/-- the first k slots of a row -/
def opO (nk : Nat) (row : Nat → Int32) (O : Nat → Int32) : Nat → Nat → Int32
  | 0 => O
  | k + 1 => hoO nk row k (opO nk row O k)
def opL (nk : Nat) (row : Nat → Int32) (L : Nat → Int32) : Nat → Nat → Int32
  | 0 => L
  | k + 1 => hoL nk row k (opL nk row L k)
def opW (nk : Nat) (row : Nat → Int32) (Wd : Nat → Nat → Int32) : Nat → Nat → Nat → Int32
  | 0 => Wd
  | k + 1 => hoW nk row k (opW nk row Wd k)
/-- the bucket on the path of leaf l, so many levels over the lowest -/
def pathB (lc l up : Nat) : Nat := (lc + l) / 2 ^ up - 1
/-- a bucket's row, open -/
def decR (key num : Int32) (C : Nat → Int32) (S : Nat → Nat → Int32) (b : Nat) : Nat → Int32 := fun i => S b i ^^^ padF key num (C b) b i
/-- the stash behind the first k buckets of a path -/
def tkO (nk : Nat) (rows : Nat → Nat → Int32) (O : Nat → Int32) : Nat → Nat → Int32
  | 0 => O
  | k + 1 => opO nk (rows k) (tkO nk rows O k) 4
def tkL (nk : Nat) (rows : Nat → Nat → Int32) (L : Nat → Int32) : Nat → Nat → Int32
  | 0 => L
  | k + 1 => opL nk (rows k) (tkL nk rows L k) 4
def tkW (nk : Nat) (rows : Nat → Nat → Int32) (Wd : Nat → Nat → Int32) : Nat → Nat → Nat → Int32
  | 0 => Wd
  | k + 1 => opW nk (rows k) (tkW nk rows Wd k) 4
/-- the open rows of a path -/
def rowsP (key num : Int32) (C : Nat → Int32) (S : Nat → Nat → Int32) (lc l : Nat) : Nat → Nat → Int32 := fun up => decR key num C S (pathB lc l up)
/-- the tag of a bucket is right -/
def wholeB (key num : Int32) (C : Nat → Int32) (S : Nat → Nat → Int32) (b : Nat) : Prop := S b 24 = tagF key num (C b) b (S b)
def zrow : Nat → Int32 := fun _ => 0
/-- the first k buckets of a path laid bare -/
def zpS (lc l : Nat) (S : Nat → Nat → Int32) : Nat → Nat → Nat → Int32
  | 0 => S
  | k + 1 => setRow (zpS lc l S k) (pathB lc l k) zrow
/-- blocks 0 .. n-1 of the stash that go into a bucket: row, stash, slots used -/
def fillN (lc up b : Nat) (L : Nat → Int32) (Wd : Nat → Nat → Int32) (w0 O : Nat → Int32) : Nat → (Nat → Int32) × (Nat → Int32) × Nat
  | 0 => (w0, O, 0)
  | n + 1 => if (fillN lc up b L Wd w0 O n).2.2 < 4 ∧ (fillN lc up b L Wd w0 O n).2.1 n ≠ 0 ∧ pathB lc (L n).toNatClampNeg up = b then (putR (fillN lc up b L Wd w0 O n).1 (fillN lc up b L Wd w0 O n).2.2 n (L n) (Wd n), upd (fillN lc up b L Wd w0 O n).2.1 n 0, (fillN lc up b L Wd w0 O n).2.2 + 1) else fillN lc up b L Wd w0 O n
/-- the first k buckets of a path put back: store, counters, stash -/
def pbN (key num : Int32) (lc nk l : Nat) (L : Nat → Int32) (Wd : Nat → Nat → Int32) (S : Nat → Nat → Int32) (C O : Nat → Int32) : Nat → (Nat → Nat → Int32) × (Nat → Int32) × (Nat → Int32)
  | 0 => (S, C, O)
  | k + 1 =>
    (setRow (pbN key num lc nk l L Wd S C O k).1 (pathB lc l k) (sealR key num ((pbN key num lc nk l L Wd S C O k).2.1 (pathB lc l k) + 1) (pathB lc l k) (fillN lc k (pathB lc l k) L Wd zrow (pbN key num lc nk l L Wd S C O k).2.2 nk).1),
     upd (pbN key num lc nk l L Wd S C O k).2.1 (pathB lc l k) ((pbN key num lc nk l L Wd S C O k).2.1 (pathB lc l k) + 1),
     (fillN lc k (pathB lc l k) L Wd zrow (pbN key num lc nk l L Wd S C O k).2.2 nk).2.1)
/-- the least place below n with P, else n -/
def ff (P : Nat → Bool) : Nat → Nat
  | 0 => 0
  | n + 1 => if ff P n < n then ff P n else if P n = true then n else n + 1
theorem ff_spec (P : Nat → Bool) : ∀ n, ff P n ≤ n ∧ (∀ j, j < ff P n → P j = false) ∧ (ff P n < n → P (ff P n) = true)
  | 0 => ⟨Nat.le_refl 0, fun j h => absurd h (Nat.not_lt_zero j), fun h => absurd h (Nat.not_lt_zero _)⟩
  | n + 1 => by
    obtain ⟨h1, h2, h3⟩ := ff_spec P n
    by_cases h : ff P n < n
    · have e : ff P (n + 1) = ff P n := by simp [ff, h]
      rw [e]
      exact ⟨by omega, h2, fun _ => h3 h⟩
    · have e0 : ff P n = n := by omega
      by_cases hp : P n = true
      · have e : ff P (n + 1) = n := by simp [ff, h, hp]
        rw [e]
        exact ⟨by omega, fun j hj => h2 j (by omega), fun _ => hp⟩
      · have e : ff P (n + 1) = n + 1 := by simp [ff, h, hp]
        rw [e]
        refine ⟨by omega, fun j hj => ?_, fun q => absurd q (by omega)⟩
        by_cases hj2 : j = n
        · subst hj2; simpa using hp
        · exact h2 j (by omega)
theorem ff_at {P : Nat → Bool} {n q : Nat} (hq : q < n) (hP : P q = true) (hlt : ∀ j, j < q → P j = false) : ff P n = q := by
  obtain ⟨h1, h2, h3⟩ := ff_spec P n
  rcases Nat.lt_trichotomy (ff P n) q with h | h | h
  · have a := hlt _ h
    have b := h3 (by omega)
    rw [a] at b; cases b
  · exact h
  · have a := h2 q h
    rw [a] at hP; cases hP
theorem ff_no {P : Nat → Bool} {n : Nat} (hlt : ∀ j, j < n → P j = false) : ff P n = n := by
  obtain ⟨h1, h2, h3⟩ := ff_spec P n
  rcases Nat.lt_or_ge (ff P n) n with h | h
  · have a := hlt _ h
    have b := h3 h
    rw [a] at b; cases b
  · omega
/-- the first free place of a block's path at the start: 4 * up + slot -/
def stQ (lc lvs l : Nat) (S : Nat → Nat → Int32) : Nat := ff (fun q => decide (S (pathB lc l (q / 4)) (6 * (q % 4)) = 0)) (4 * lvs)
def stS (lc lvs l n : Nat) (lf : Int32) (wd : Nat → Int32) (S : Nat → Nat → Int32) : Nat → Nat → Int32 :=
  if stQ lc lvs l S < 4 * lvs then setRow S (pathB lc l (stQ lc lvs l S / 4)) (putR (S (pathB lc l (stQ lc lvs l S / 4))) (stQ lc lvs l S % 4) n lf wd) else S
def stO (lc lvs l n : Nat) (S : Nat → Nat → Int32) (O : Nat → Int32) : Nat → Int32 := if stQ lc lvs l S < 4 * lvs then upd O n 0 else O

theorem hoO_n {nk sl : Nat} {row O : Nat → Int32} (h : noB nk (row (6 * sl) - 1) = true) : hoO nk row sl O = O := by simp [hoO, h]
theorem hoL_n {nk sl : Nat} {row L : Nat → Int32} (h : noB nk (row (6 * sl) - 1) = true) : hoL nk row sl L = L := by simp [hoL, h]
theorem hoW_n {nk sl : Nat} {row : Nat → Int32} {Wd : Nat → Nat → Int32} (h : noB nk (row (6 * sl) - 1) = true) : hoW nk row sl Wd = Wd := by simp [hoW, h]
theorem noB_lt {nk : Nat} {x : Int32} (h : x < 0) : noB nk x = true := by simp [noB, h]
theorem noB_ge {nk : Nat} {x : Int32} (h : nI nk ≤ x) : noB nk x = true := by simp [noB, h]
theorem noB_nI {nk n : Nat} (h : n < nk) (hk : nk < 2147483648) : noB nk (nI n) = false := by
  simp only [noB, Bool.or_eq_false_iff, decide_eq_false_iff_not]
  exact ⟨nI_pos (by omega), nI_ge h hk⟩
theorem noB_false {nk : Nat} {x : Int32} (hk : nk < 2147483648) (h1 : ¬ x < 0) (h2 : ¬ nI nk ≤ x) : ∃ n, n < nk ∧ x = nI n := by
  rcases pk_ix x (n := nk) hk with h | h | h
  · exact absurd h h1
  · exact absurd h h2
  · exact h
theorem hoO_y {nk sl n : Nat} {row O : Nat → Int32} (hn : n < nk) (hk : nk < 2147483648) (h : row (6 * sl) - 1 = nI n) : hoO nk row sl O = upd O n 1 := by
  simp only [hoO, h, noB_nI hn hk, nI_clamp (show n < 2 ^ 31 by omega)]; rfl
theorem hoL_y {nk sl n : Nat} {row L : Nat → Int32} (hn : n < nk) (hk : nk < 2147483648) (h : row (6 * sl) - 1 = nI n) : hoL nk row sl L = upd L n (row (6 * sl + 1)) := by
  simp only [hoL, h, noB_nI hn hk, nI_clamp (show n < 2 ^ 31 by omega)]; rfl
/-- the words of a row, first k of four, at a block -/
def wdK (row : Nat → Int32) (sl : Nat) (w : Nat → Int32) (k : Nat) : Nat → Int32 := fun i => if i < k then row (6 * sl + 2 + i) else w i
theorem hoW_y {nk sl n : Nat} {row : Nat → Int32} {Wd : Nat → Nat → Int32} (hn : n < nk) (hk : nk < 2147483648) (h : row (6 * sl) - 1 = nI n) : hoW nk row sl Wd = setRow Wd n (wdK row sl (Wd n) 4) := by
  simp only [hoW, h, noB_nI hn hk, nI_clamp (show n < 2 ^ 31 by omega)]; rfl
theorem wdK_0 {row w : Nat → Int32} {sl : Nat} : wdK row sl w 0 = w := by funext i; simp [wdK]
theorem wdK_s {row w : Nat → Int32} {sl k : Nat} : upd (wdK row sl w k) k (row (6 * sl + 2 + k)) = wdK row sl w (k + 1) := by
  funext i
  by_cases h : i = k
  · subst h; simp [upd, wdK]
  · have h1 : (i < k + 1) = (i < k) := by apply propext; omega
    simp [upd, h, wdK, h1]
theorem ho_congr {nk sl : Nat} {row row' O L : Nat → Int32} {Wd : Nat → Nat → Int32} (hs : sl < 4) (h : ∀ i, i < 24 → row i = row' i) : hoO nk row sl O = hoO nk row' sl O ∧ hoL nk row sl L = hoL nk row' sl L ∧ hoW nk row sl Wd = hoW nk row' sl Wd := by
  have h0 := h (6 * sl) (by omega)
  have h1 := h (6 * sl + 1) (by omega)
  refine ⟨by simp only [hoO, h0], by simp only [hoL, h0, h1], ?_⟩
  have h2 : ∀ w : Nat → Int32, (fun i => if i < 4 then row (6 * sl + 2 + i) else w i) = (fun i => if i < 4 then row' (6 * sl + 2 + i) else w i) := by
    intro w
    funext i
    by_cases hi : i < 4
    · simp only [if_pos hi, h (6 * sl + 2 + i) (by omega)]
    · simp only [if_neg hi]
  simp only [hoW, h0, h2]
theorem opO_congr {nk : Nat} {row row' O : Nat → Int32} (h : ∀ i, i < 24 → row i = row' i) : ∀ {k : Nat}, k ≤ 4 → opO nk row O k = opO nk row' O k
  | 0, _ => rfl
  | k + 1, hk => by rw [opO, opO, opO_congr h (by omega), (ho_congr (nk := nk) (L := O) (Wd := fun _ => O) (O := opO nk row' O k) (show k < 4 by omega) h).1]
theorem opL_congr {nk : Nat} {row row' L : Nat → Int32} (h : ∀ i, i < 24 → row i = row' i) : ∀ {k : Nat}, k ≤ 4 → opL nk row L k = opL nk row' L k
  | 0, _ => rfl
  | k + 1, hk => by rw [opL, opL, opL_congr h (by omega), (ho_congr (nk := nk) (O := L) (Wd := fun _ => L) (L := opL nk row' L k) (show k < 4 by omega) h).2.1]
theorem opW_congr {nk : Nat} {row row' : Nat → Int32} {Wd : Nat → Nat → Int32} (h : ∀ i, i < 24 → row i = row' i) : ∀ {k : Nat}, k ≤ 4 → opW nk row Wd k = opW nk row' Wd k
  | 0, _ => rfl
  | k + 1, hk => by rw [opW, opW, opW_congr h (by omega), (ho_congr (nk := nk) (O := row) (L := row) (Wd := opW nk row' Wd k) (show k < 4 by omega) h).2.2]
theorem mask_dec {key num : Int32} {C : Nat → Int32} {S : Nat → Nat → Int32} {b : Nat} : ∀ i, i < 24 → maskR key num (C b) b (S b) 24 i = decR key num C S b i := fun i hi => by simp [maskR, decR, hi]
def cntN (O : Nat → Int32) : Nat → Nat
  | 0 => 0
  | k + 1 => cntN O k + if O k = 0 then 0 else 1
theorem cntN_le (O : Nat → Int32) : ∀ k, cntN O k ≤ k
  | 0 => Nat.le_refl 0
  | k + 1 => by have := cntN_le O k; by_cases h : O k = 0 <;> simp [cntN, h] <;> omega
/-- zeros laid over the first k words -/
def zerK (w : Nat → Int32) (k : Nat) : Nat → Int32 := fun i => if i < k then 0 else w i
theorem zerK_0 {w : Nat → Int32} : zerK w 0 = w := by funext i; simp [zerK]
theorem zerK_s {w : Nat → Int32} {k : Nat} : upd (zerK w k) k 0 = zerK w (k + 1) := by
  funext i
  by_cases h : i = k
  · subst h; simp [upd, zerK]
  · have h1 : (i < k + 1) = (i < k) := by apply propext; omega
    simp [upd, h, zerK, h1]
theorem fl25_zer {S : Nat → Nat → Int32} {b : Nat} {w : Nat → Int32} : fl25 (setRow S b (zerK w 25)) = fl25 (setRow S b zrow) := by
  refine fl25_congr (fun b' i hi => ?_)
  by_cases h : b' = b
  · subst h; simp [setRow, zerK, zrow, hi]
  · rw [setRow_n h, setRow_n h]
section Fill
variable {lc up b : Nat} {L : Nat → Int32} {Wd : Nat → Nat → Int32} {w0 O : Nat → Int32}
theorem fillN_le : ∀ n, (fillN lc up b L Wd w0 O n).2.2 ≤ 4
  | 0 => by simp [fillN]
  | n + 1 => by
    have h := fillN_le n
    rw [fillN]
    by_cases hc : (fillN lc up b L Wd w0 O n).2.2 < 4 ∧ (fillN lc up b L Wd w0 O n).2.1 n ≠ 0 ∧ pathB lc (L n).toNatClampNeg up = b
    · rw [if_pos hc]; have := hc.1; show (fillN lc up b L Wd w0 O n).2.2 + 1 ≤ 4; omega
    · rw [if_neg hc]; exact h
theorem fillN_O : ∀ n j, n ≤ j → (fillN lc up b L Wd w0 O n).2.1 j = O j
  | 0, _, _ => rfl
  | n + 1, j, hj => by
    have h := fillN_O n j (by omega)
    rw [fillN]
    by_cases hc : (fillN lc up b L Wd w0 O n).2.2 < 4 ∧ (fillN lc up b L Wd w0 O n).2.1 n ≠ 0 ∧ pathB lc (L n).toNatClampNeg up = b
    · rw [if_pos hc]; show upd (fillN lc up b L Wd w0 O n).2.1 n 0 j = O j
      rw [pk_un (by omega)]; exact h
    · rw [if_neg hc]; exact h
theorem fillN_y {n : Nat} (h1 : (fillN lc up b L Wd w0 O n).2.2 < 4) (h2 : O n ≠ 0) (h3 : pathB lc (L n).toNatClampNeg up = b) : fillN lc up b L Wd w0 O (n + 1) = (putR (fillN lc up b L Wd w0 O n).1 (fillN lc up b L Wd w0 O n).2.2 n (L n) (Wd n), upd (fillN lc up b L Wd w0 O n).2.1 n 0, (fillN lc up b L Wd w0 O n).2.2 + 1) := by
  rw [fillN, if_pos ⟨h1, by rw [fillN_O n n (Nat.le_refl n)]; exact h2, h3⟩]
theorem fillN_n {n : Nat} (h : O n = 0 ∨ ¬ pathB lc (L n).toNatClampNeg up = b) : fillN lc up b L Wd w0 O (n + 1) = fillN lc up b L Wd w0 O n := by
  rw [fillN, if_neg]
  rw [fillN_O n n (Nat.le_refl n)]
  rintro ⟨-, h2, h3⟩
  rcases h with h | h
  · exact h2 h
  · exact h h3
theorem fillN_stop {n : Nat} (h : 4 ≤ (fillN lc up b L Wd w0 O n).2.2) : ∀ j, fillN lc up b L Wd w0 O (n + j) = fillN lc up b L Wd w0 O n
  | 0 => rfl
  | j + 1 => by
    have e := fillN_stop h j
    rw [show n + (j + 1) = (n + j) + 1 by omega, fillN, e, if_neg]
    rintro ⟨h1, -⟩
    omega
end Fill
