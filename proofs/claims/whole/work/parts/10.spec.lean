/-! the words for the state: rows of 25 sealed words, rows of 4 words of a block; what each method does to them -/
def ush (x k : Int32) : Int32 := (x.toUInt32 >>> (k.toUInt32 &&& Int32.toUInt32 31)).toInt32
def setRow (S : Nat → Nat → Int32) (b : Nat) (P : Nat → Int32) : Nat → Nat → Int32 := fun b' => if b' = b then P else S b'
def fl25 (S : Nat → Nat → Int32) : Nat → Int32 := fun j => S (j / 25) (j % 25)
def fl4 (S : Nat → Nat → Int32) : Nat → Int32 := fun j => S (j / 4) (j % 4)
theorem setRow_s {S : Nat → Nat → Int32} {b : Nat} {P : Nat → Int32} : setRow S b P b = P := by simp [setRow]
theorem setRow_n {S : Nat → Nat → Int32} {b b' : Nat} {P : Nat → Int32} (h : b' ≠ b) : setRow S b P b' = S b' := by simp [setRow, h]
theorem setRow_id {S : Nat → Nat → Int32} {b : Nat} : setRow S b (S b) = S := by funext x; by_cases h : x = b <;> simp [setRow, h]
theorem setRow_2 {S : Nat → Nat → Int32} {b : Nat} {P P' : Nat → Int32} : setRow (setRow S b P) b P' = setRow S b P' := by funext x; by_cases h : x = b <;> simp [setRow, h]
theorem fl25_eq {S : Nat → Nat → Int32} {k b i : Nat} (hk : k = 25 * b + i) (hi : i < 25) : fl25 S k = S b i := by
  have h1 : k / 25 = b := by omega
  have h2 : k % 25 = i := by omega
  show S (k / 25) (k % 25) = S b i
  rw [h1, h2]
theorem fl4_eq {S : Nat → Nat → Int32} {k b i : Nat} (hk : k = 4 * b + i) (hi : i < 4) : fl4 S k = S b i := by
  have h1 : k / 4 = b := by omega
  have h2 : k % 4 = i := by omega
  show S (k / 4) (k % 4) = S b i
  rw [h1, h2]
theorem fl25_up {S : Nat → Nat → Int32} {k b i : Nat} {x : Int32} (hk : k = 25 * b + i) (hi : i < 25) : upd (fl25 S) k x = fl25 (setRow S b (upd (S b) i x)) := by
  funext j
  by_cases h : j = k
  · subst h
    rw [fl25_eq hk hi]
    simp [upd, setRow]
  · have h2 : upd (fl25 S) k x j = fl25 S j := by simp [upd, h]
    rw [h2]
    show S (j / 25) (j % 25) = setRow S b (upd (S b) i x) (j / 25) (j % 25)
    by_cases hb : j / 25 = b
    · have hi2 : j % 25 ≠ i := by omega
      simp [setRow, hb, upd, hi2]
    · rw [setRow_n hb]
theorem fl4_up {S : Nat → Nat → Int32} {k b i : Nat} {x : Int32} (hk : k = 4 * b + i) (hi : i < 4) : upd (fl4 S) k x = fl4 (setRow S b (upd (S b) i x)) := by
  funext j
  by_cases h : j = k
  · subst h
    rw [fl4_eq hk hi]
    simp [upd, setRow]
  · have h2 : upd (fl4 S) k x j = fl4 S j := by simp [upd, h]
    rw [h2]
    show S (j / 4) (j % 4) = setRow S b (upd (S b) i x) (j / 4) (j % 4)
    by_cases hb : j / 4 = b
    · have hi2 : j % 4 ≠ i := by omega
      simp [setRow, hb, upd, hi2]
    · rw [setRow_n hb]
theorem fl25_congr {S S' : Nat → Nat → Int32} (h : ∀ b i, i < 25 → S b i = S' b i) : fl25 S = fl25 S' := by
  funext j
  exact h _ _ (Nat.mod_lt _ (by decide))
theorem fl4_congr {S S' : Nat → Nat → Int32} (h : ∀ b i, i < 4 → S b i = S' b i) : fl4 S = fl4 S' := by
  funext j
  exact h _ _ (Nat.mod_lt _ (by decide))
/-- the mixing of PAD -/
def padM (h : Int32) : Int32 :=
  let h1 := h ^^^ ush h 15
  let h2 := h1 * 739982445
  let h3 := h2 ^^^ ush h2 12
  let h4 := h3 * 695872825
  h4 ^^^ ush h4 15
/-- PAD(i) of the bucket b of the tree number num, its counter cb -/
def padF (key num cb : Int32) (b i : Nat) : Int32 :=
  padM (((key ^^^ (64 * num + nI b + 1) * (-1640531535)) ^^^ cb * (-2048144777)) ^^^ (nI i + 1) * (-1028477379))
/-- the tag over the first k words of a row -/
def tagN (p : Int32) (w : Nat → Int32) : Nat → Int32
  | 0 => p
  | k + 1 => (tagN p w k ^^^ w k) * 16777619
theorem tagN_congr {p : Int32} {w w' : Nat → Int32} : ∀ {k : Nat}, (∀ i, i < k → w i = w' i) → tagN p w k = tagN p w' k
  | 0, _ => rfl
  | k + 1, h => by rw [tagN, tagN, tagN_congr (fun i hi => h i (by omega)), h k (by omega)]
/-- the tag that a row must bear -/
def tagF (key num cb : Int32) (b : Nat) (w : Nat → Int32) : Int32 := tagN (padF key num cb b 24) w 24
/-- the first k words of a row, masked -/
def maskR (key num cb : Int32) (b : Nat) (w : Nat → Int32) (k : Nat) : Nat → Int32 := fun i => if i < k then w i ^^^ padF key num cb b i else w i
/-- a plain row, sealed -/
def sealR (key num cb : Int32) (b : Nat) (w : Nat → Int32) : Nat → Int32 := upd (maskR key num cb b w 24) 24 (tagF key num cb b (maskR key num cb b w 24))
theorem maskR_0 {key num cb : Int32} {b : Nat} {w : Nat → Int32} : maskR key num cb b w 0 = w := by funext i; simp [maskR]
theorem maskR_s {key num cb : Int32} {b k : Nat} {w : Nat → Int32} : upd (maskR key num cb b w k) k (maskR key num cb b w k k ^^^ padF key num cb b k) = maskR key num cb b w (k + 1) := by
  funext i
  by_cases h : i = k
  · subst h; simp [upd, maskR]
  · have h1 : (i < k + 1) = (i < k) := by apply propext; omega
    simp [upd, h, maskR, h1]
/-- a block laid into a row at a slot -/
def putR (w : Nat → Int32) (sl n : Nat) (lf : Int32) (wd : Nat → Int32) : Nat → Int32 := fun i => if 6 * sl ≤ i ∧ i < 6 * sl + 6 then (if i = 6 * sl then nI n + 1 else if i = 6 * sl + 1 then lf else wd (i - (6 * sl + 2))) else w i
/-- a number that is no block's -/
def noB (nk : Nat) (x : Int32) : Bool := decide (x < 0) || decide (nI nk ≤ x)
/-- what slot sl of an open row brings to the stash -/
def hoO (nk : Nat) (row : Nat → Int32) (sl : Nat) (O : Nat → Int32) : Nat → Int32 := if noB nk (row (6 * sl) - 1) = true then O else upd O (row (6 * sl) - 1).toNatClampNeg 1
def hoL (nk : Nat) (row : Nat → Int32) (sl : Nat) (L : Nat → Int32) : Nat → Int32 := if noB nk (row (6 * sl) - 1) = true then L else upd L (row (6 * sl) - 1).toNatClampNeg (row (6 * sl + 1))
def hoW (nk : Nat) (row : Nat → Int32) (sl : Nat) (Wd : Nat → Nat → Int32) : Nat → Nat → Int32 := if noB nk (row (6 * sl) - 1) = true then Wd else setRow Wd (row (6 * sl) - 1).toNatClampNeg (fun i => if i < 4 then row (6 * sl + 2 + i) else Wd (row (6 * sl) - 1).toNatClampNeg i)
/-- the first k slots of a row -/
def opO (nk : Nat) (row : Nat → Int32) (O : Nat → Int32) : Nat → Nat → Int32
  | 0 => O
  | k + 1 => hoO nk row k (opO nk row O k)
def opL (nk : Nat) (row : Nat → Int32) (L : Nat → Int32) : Nat → Nat → Int32
  | 0 => L
  | k + 1 => hoL nk row k (opL nk row L k)
def opW (nk : Nat) (row : Nat → Int32) (Wd : Nat → Nat → Int32) : Nat → Nat → Nat → Int32
  | 0 => Wd
  | k + 1 => hoW nk row k (opW nk row Wd k)
/-- the bucket on the path of leaf l, so many levels over the lowest -/
def pathB (lc l up : Nat) : Nat := (lc + l) / 2 ^ up - 1
/-- a bucket's row, open -/
def decR (key num : Int32) (C : Nat → Int32) (S : Nat → Nat → Int32) (b : Nat) : Nat → Int32 := fun i => S b i ^^^ padF key num (C b) b i
/-- the stash behind the first k buckets of a path -/
def tkO (nk : Nat) (rows : Nat → Nat → Int32) (O : Nat → Int32) : Nat → Nat → Int32
  | 0 => O
  | k + 1 => opO nk (rows k) (tkO nk rows O k) 4
def tkL (nk : Nat) (rows : Nat → Nat → Int32) (L : Nat → Int32) : Nat → Nat → Int32
  | 0 => L
  | k + 1 => opL nk (rows k) (tkL nk rows L k) 4
def tkW (nk : Nat) (rows : Nat → Nat → Int32) (Wd : Nat → Nat → Int32) : Nat → Nat → Nat → Int32
  | 0 => Wd
  | k + 1 => opW nk (rows k) (tkW nk rows Wd k) 4
/-- the open rows of a path -/
def rowsP (key num : Int32) (C : Nat → Int32) (S : Nat → Nat → Int32) (lc l : Nat) : Nat → Nat → Int32 := fun up => decR key num C S (pathB lc l up)
/-- the tag of a bucket is right -/
def wholeB (key num : Int32) (C : Nat → Int32) (S : Nat → Nat → Int32) (b : Nat) : Prop := S b 24 = tagF key num (C b) b (S b)
def zrow : Nat → Int32 := fun _ => 0
/-- the first k buckets of a path laid bare -/
def zpS (lc l : Nat) (S : Nat → Nat → Int32) : Nat → Nat → Nat → Int32
  | 0 => S
  | k + 1 => setRow (zpS lc l S k) (pathB lc l k) zrow
/-- blocks 0 .. n-1 of the stash that go into a bucket: row, stash, slots used -/
def fillN (lc up b : Nat) (L : Nat → Int32) (Wd : Nat → Nat → Int32) (w0 O : Nat → Int32) : Nat → (Nat → Int32) × (Nat → Int32) × Nat
  | 0 => (w0, O, 0)
  | n + 1 => if (fillN lc up b L Wd w0 O n).2.2 < 4 ∧ (fillN lc up b L Wd w0 O n).2.1 n ≠ 0 ∧ pathB lc (L n).toNatClampNeg up = b then (putR (fillN lc up b L Wd w0 O n).1 (fillN lc up b L Wd w0 O n).2.2 n (L n) (Wd n), upd (fillN lc up b L Wd w0 O n).2.1 n 0, (fillN lc up b L Wd w0 O n).2.2 + 1) else fillN lc up b L Wd w0 O n
/-- the first k buckets of a path put back: store, counters, stash -/
def pbN (key num : Int32) (lc nk l : Nat) (L : Nat → Int32) (Wd : Nat → Nat → Int32) (S : Nat → Nat → Int32) (C O : Nat → Int32) : Nat → (Nat → Nat → Int32) × (Nat → Int32) × (Nat → Int32)
  | 0 => (S, C, O)
  | k + 1 =>
    (setRow (pbN key num lc nk l L Wd S C O k).1 (pathB lc l k) (sealR key num ((pbN key num lc nk l L Wd S C O k).2.1 (pathB lc l k) + 1) (pathB lc l k) (fillN lc k (pathB lc l k) L Wd zrow (pbN key num lc nk l L Wd S C O k).2.2 nk).1),
     upd (pbN key num lc nk l L Wd S C O k).2.1 (pathB lc l k) ((pbN key num lc nk l L Wd S C O k).2.1 (pathB lc l k) + 1),
     (fillN lc k (pathB lc l k) L Wd zrow (pbN key num lc nk l L Wd S C O k).2.2 nk).2.1)
/-- the least place below n with P, else n -/
def ff (P : Nat → Bool) : Nat → Nat
  | 0 => 0
  | n + 1 => if ff P n < n then ff P n else if P n = true then n else n + 1
theorem ff_spec (P : Nat → Bool) : ∀ n, ff P n ≤ n ∧ (∀ j, j < ff P n → P j = false) ∧ (ff P n < n → P (ff P n) = true)
  | 0 => ⟨Nat.le_refl 0, fun j h => absurd h (Nat.not_lt_zero j), fun h => absurd h (Nat.not_lt_zero _)⟩
  | n + 1 => by
    obtain ⟨h1, h2, h3⟩ := ff_spec P n
    by_cases h : ff P n < n
    · have e : ff P (n + 1) = ff P n := by simp [ff, h]
      rw [e]
      exact ⟨by omega, h2, fun _ => h3 h⟩
    · have e0 : ff P n = n := by omega
      by_cases hp : P n = true
      · have e : ff P (n + 1) = n := by simp [ff, h, hp]
        rw [e]
        exact ⟨by omega, fun j hj => h2 j (by omega), fun _ => hp⟩
      · have e : ff P (n + 1) = n + 1 := by simp [ff, h, hp]
        rw [e]
        refine ⟨by omega, fun j hj => ?_, fun q => absurd q (by omega)⟩
        by_cases hj2 : j = n
        · subst hj2; simpa using hp
        · exact h2 j (by omega)
theorem ff_at {P : Nat → Bool} {n q : Nat} (hq : q < n) (hP : P q = true) (hlt : ∀ j, j < q → P j = false) : ff P n = q := by
  obtain ⟨h1, h2, h3⟩ := ff_spec P n
  rcases Nat.lt_trichotomy (ff P n) q with h | h | h
  · have a := hlt _ h
    have b := h3 (by omega)
    rw [a] at b; cases b
  · exact h
  · have a := h2 q h
    rw [a] at hP; cases hP
theorem ff_no {P : Nat → Bool} {n : Nat} (hlt : ∀ j, j < n → P j = false) : ff P n = n := by
  obtain ⟨h1, h2, h3⟩ := ff_spec P n
  rcases Nat.lt_or_ge (ff P n) n with h | h
  · have a := hlt _ h
    have b := h3 h
    rw [a] at b; cases b
  · omega
/-- the first free place of a block's path at the start: 4 * up + slot -/
def stQ (lc lvs l : Nat) (S : Nat → Nat → Int32) : Nat := ff (fun q => decide (S (pathB lc l (q / 4)) (6 * (q % 4)) = 0)) (4 * lvs)
def stS (lc lvs l n : Nat) (lf : Int32) (wd : Nat → Int32) (S : Nat → Nat → Int32) : Nat → Nat → Int32 :=
  if stQ lc lvs l S < 4 * lvs then setRow S (pathB lc l (stQ lc lvs l S / 4)) (putR (S (pathB lc l (stQ lc lvs l S / 4))) (stQ lc lvs l S % 4) n lf wd) else S
def stO (lc lvs l n : Nat) (S : Nat → Nat → Int32) (O : Nat → Int32) : Nat → Int32 := if stQ lc lvs l S < 4 * lvs then upd O n 0 else O
