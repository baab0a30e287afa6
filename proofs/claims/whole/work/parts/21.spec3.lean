/-! the whole of the class: entries of the map, draws, the start, an access -/
theorem tp0 : TP 4 3 7 8 := Or.inl ⟨rfl, rfl, rfl, rfl⟩
theorem tp1 : TP 32 6 63 64 := Or.inr ⟨rfl, rfl, rfl, rfl⟩
/-- the entry in half p of a word of the map -/
def entM (w : Int32) (p : Nat) : Nat := w.toBitVec.toNat / 2 ^ (16 * p) % 32
def setE (w : Int32) (p : Nat) (v : Int32) : Int32 := (w &&& ((nI 31 <<< (nI (16 * p) &&& 31)) ^^^ (-1))) ||| (v <<< (nI (16 * p) &&& 31))
theorem entM_lt (w : Int32) (p : Nat) : entM w p < 32 := Nat.mod_lt _ (by decide)
theorem entM_ush (w : Int32) {p : Nat} (hp : p < 2) : ush w (nI (16 * p)) &&& nI 31 = nI (entM w p) := by
  rw [ush_nI w (by omega)]
  have hlt : w.toBitVec.toNat / 2 ^ (16 * p) < 2 ^ 32 := Nat.lt_of_le_of_lt (Nat.div_le_self _ _) w.toBitVec.isLt
  exact pk_andN hlt 5 (by decide)
/-- k draws later -/
def dG (G : Int32) : Nat → Int32
  | 0 => G
  | k + 1 => dstep (dG G k)
/-- word i of the map's block j, entries of the data blocks below k laid -/
def vaK (g : Int32) (k j i : Nat) : Int32 := (if 8 * j + 2 * i < k then nI (drw 5 (dG g (8 * j + 2 * i))) else 0) ||| (if 8 * j + 2 * i + 1 < k then nI (drw 5 (dG g (8 * j + 2 * i + 1))) <<< (nI 16 &&& 31) else 0)
theorem b_or0 (x : Int32) : x ||| 0 = x := by simp
theorem b_0or (x : Int32) : (0 : Int32) ||| x = x := by simp
theorem b_mask16 : ∀ a, a < 32 → nI a &&& ((nI 31 <<< (nI 16 &&& 31)) ^^^ (-1)) = nI a := by decide +kernel
theorem b_mask0 (x : Int32) : (0 : Int32) &&& x = 0 := by simp
theorem b_shl0 (x : Int32) : x <<< (nI 0 &&& 31) = x := sb_shl0 x
theorem vaK_0 {g : Int32} {j i : Nat} : vaK g 0 j i = 0 := by simp [vaK]
/-- laying the entry of block d: the word that it stands in -/
theorem vaK_at {g : Int32} {d : Nat} : setE (vaK g d (d / 8) (d % 8 / 2)) (d % 8 % 2) (nI (drw 5 (dG g d))) = vaK g (d + 1) (d / 8) (d % 8 / 2) ∧ vaK g d (d / 8) (d % 8 / 2) ||| (nI (drw 5 (dG g d)) <<< (nI (16 * (d % 8 % 2)) &&& 31)) = vaK g (d + 1) (d / 8) (d % 8 / 2) := by
  have h2 : d % 8 % 2 = 0 ∨ d % 8 % 2 = 1 := by omega
  rcases h2 with h | h
  · have e1 : 8 * (d / 8) + 2 * (d % 8 / 2) = d := by omega
    have c1 : vaK g d (d / 8) (d % 8 / 2) = 0 := by simp [vaK, e1, show ¬ d + 1 < d by omega]
    have c2 : vaK g (d + 1) (d / 8) (d % 8 / 2) = nI (drw 5 (dG g d)) := by simp [vaK, e1]
    rw [c1, c2, h]
    refine ⟨?_, ?_⟩
    · show ((0 : Int32) &&& _) ||| (_ <<< (nI 0 &&& 31)) = _
      rw [b_mask0, b_shl0, b_0or]
    · show (0 : Int32) ||| (_ <<< (nI 0 &&& 31)) = _
      rw [b_shl0, b_0or]
  · have e1 : 8 * (d / 8) + 2 * (d % 8 / 2) + 1 = d := by omega
    have e2 : 8 * (d / 8) + 2 * (d % 8 / 2) < d := by omega
    have e3 : 8 * (d / 8) + 2 * (d % 8 / 2) < d + 1 := by omega
    have hlt := drw_lt (n := 5) (dG g (8 * (d / 8) + 2 * (d % 8 / 2))) (by decide)
    have c1 : vaK g d (d / 8) (d % 8 / 2) = nI (drw 5 (dG g (8 * (d / 8) + 2 * (d % 8 / 2)))) := by simp [vaK, e1, e2]
    have c2 : vaK g (d + 1) (d / 8) (d % 8 / 2) = nI (drw 5 (dG g (8 * (d / 8) + 2 * (d % 8 / 2)))) ||| (nI (drw 5 (dG g d)) <<< (nI 16 &&& 31)) := by simp [vaK, e1, e3]
    rw [c1, c2, h]
    refine ⟨?_, rfl⟩
    show ((_ : Int32) &&& ((nI 31 <<< (nI 16 &&& 31)) ^^^ (-1 : Int32))) ||| ((_ : Int32) <<< (nI 16 &&& 31)) = _
    rw [b_mask16 _ hlt]
theorem vaK_ne {g : Int32} {d j i : Nat} (hi : i < 4) (h : ¬ (j = d / 8 ∧ i = d % 8 / 2)) : vaK g (d + 1) j i = vaK g d j i := by
  have h1 : (8 * j + 2 * i < d + 1) = (8 * j + 2 * i < d) := by apply propext; omega
  have h2 : (8 * j + 2 * i + 1 < d + 1) = (8 * j + 2 * i + 1 < d) := by apply propext; omega
  simp only [vaK, h1, h2]
theorem vaK_row {g : Int32} {d : Nat} {x : Int32} (hx : x = vaK g (d + 1) (d / 8) (d % 8 / 2)) : fl4 (setRow (vaK g d) (d / 8) (upd (vaK g d (d / 8)) (d % 8 / 2) x)) = fl4 (vaK g (d + 1)) := by
  refine fl4_congr (fun b i hi => ?_)
  by_cases hb : b = d / 8
  · subst hb
    rw [setRow_s]
    by_cases h2 : i = d % 8 / 2
    · subst h2; rw [pk_us, hx]
    · rw [pk_un h2, vaK_ne hi (fun q => h2 q.2)]
  · rw [setRow_n hb, vaK_ne hi (fun q => hb q.1)]
/-- what is drawn at the start -/
def gS (x : Int32) : Int32 := if x = 0 then 1 else x
def mpS (g : Int32) : Nat → Nat := fun j => drw 2 (dG g j)
def l0S (g : Int32) : Nat → Int32 := fun j => nI (drw 2 (dG g j))
def l1S (g : Int32) : Nat → Int32 := fun d => nI (drw 5 (dG (dG g 8) d))
def w0S (g : Int32) : Nat → Nat → Int32 := vaK (dG g 8) 64
/-- the first k of a row by another -/
def miK (f g : Nat → Int32) (k : Nat) : Nat → Int32 := fun j => if j < k then g j else f j
theorem miK_0 {f g : Nat → Int32} : miK f g 0 = f := by funext j; simp [miK]
theorem miK_s {f g : Nat → Int32} {k : Nat} : upd (miK f g k) k (g k) = miK f g (k + 1) := by
  funext i
  by_cases h : i = k
  · subst h; simp [upd, miK]
  · have h1 : (i < k + 1) = (i < k) := by apply propext; omega
    simp [upd, h, miK, h1]
theorem miK_lt {f g : Nat → Int32} {k j : Nat} (h : j < k) : miK f g k j = g j := by simp [miK, h]
theorem dG_add (G : Int32) (a : Nat) : ∀ b, dG (dG G a) b = dG G (a + b)
  | 0 => rfl
  | b + 1 => by show dstep (dG (dG G a) b) = dstep (dG G (a + b)); rw [dG_add G a b]
/-- put back over a path laid bare, or not -/
theorem zpS_path {lc lvs nb nk l : Nat} {S : Nat → Nat → Int32} (hT : TP lc lvs nb nk) (hl : l < lc) : ∀ k, k ≤ lvs → ∀ up, up < k → zpS lc l S k (pathB lc l up) = zrow
  | 0, _, up, h => absurd h (Nat.not_lt_zero up)
  | k + 1, hk, up, h => by
    show setRow (zpS lc l S k) (pathB lc l k) zrow (pathB lc l up) = zrow
    by_cases hu : up = k
    · subst hu; exact setRow_s
    · rw [setRow_n (pathB_ne hT hl (by omega) (by omega) hu), zpS_path hT hl k (by omega) up (by omega)]
theorem pbN_2 {lc nk l : Nat} {key num : Int32} {L : Nat → Int32} {Wd : Nat → Nat → Int32} {S S' : Nat → Nat → Int32} {C O : Nat → Int32} : ∀ k, (pbN key num lc nk l L Wd S C O k).2 = (pbN key num lc nk l L Wd S' C O k).2
  | 0 => rfl
  | k + 1 => by
    have h := pbN_2 (key := key) (num := num) (lc := lc) (nk := nk) (l := l) (L := L) (Wd := Wd) (S := S) (S' := S') (C := C) (O := O) k
    rw [pbN, pbN, h]
theorem pbN_zp1 {lc nk l : Nat} {key num : Int32} {L : Nat → Int32} {Wd : Nat → Nat → Int32} {S : Nat → Nat → Int32} {C O : Nat → Int32} : ∀ n k, n ≤ k → (pbN key num lc nk l L Wd (zpS lc l S n) C O k).1 = (pbN key num lc nk l L Wd S C O k).1
  | 0, _, _ => rfl
  | n + 1, k, hk => by
    have key1 : ∀ j, n + 1 ≤ j → j ≤ k → (pbN key num lc nk l L Wd (zpS lc l S (n + 1)) C O j).1 = (pbN key num lc nk l L Wd (zpS lc l S n) C O j).1 := by
      have gen : ∀ j, (∀ b, b ≠ pathB lc l n → (pbN key num lc nk l L Wd (zpS lc l S (n + 1)) C O j).1 b = (pbN key num lc nk l L Wd (zpS lc l S n) C O j).1 b) ∧ (n + 1 ≤ j → (pbN key num lc nk l L Wd (zpS lc l S (n + 1)) C O j).1 (pathB lc l n) = (pbN key num lc nk l L Wd (zpS lc l S n) C O j).1 (pathB lc l n)) := by
        intro j
        induction j with
        | zero => exact ⟨fun b hb => setRow_n hb, fun h => absurd h (by omega)⟩
        | succ j ih =>
          have h2 := pbN_2 (key := key) (num := num) (lc := lc) (nk := nk) (l := l) (L := L) (Wd := Wd) (S := zpS lc l S (n + 1)) (S' := zpS lc l S n) (C := C) (O := O) j
          refine ⟨fun b hb => ?_, fun hj => ?_⟩
          · rw [pbN, pbN, h2]
            show setRow _ (pathB lc l j) _ b = setRow _ (pathB lc l j) _ b
            by_cases hbj : b = pathB lc l j
            · subst hbj; rw [setRow_s, setRow_s]
            · rw [setRow_n hbj, setRow_n hbj, ih.1 b hb]
          · rw [pbN, pbN, h2]
            show setRow _ (pathB lc l j) _ (pathB lc l n) = setRow _ (pathB lc l j) _ (pathB lc l n)
            by_cases hbj : pathB lc l n = pathB lc l j
            · rw [hbj, setRow_s, setRow_s]
            · rw [setRow_n hbj, setRow_n hbj]
              by_cases hjn : j = n
              · subst hjn; exact absurd rfl hbj
              · exact ih.2 (by omega)
      intro j hj hjk
      funext b
      by_cases hb : b = pathB lc l n
      · subst hb; exact (gen j).2 hj
      · exact (gen j).1 b hb
    exact (key1 k hk (Nat.le_refl k)).trans (pbN_zp1 n k (by omega))
theorem pbN_zp {lc lvs nk l : Nat} {key num : Int32} {L : Nat → Int32} {Wd : Nat → Nat → Int32} {S : Nat → Nat → Int32} {C O : Nat → Int32} : pbN key num lc nk l L Wd (zpS lc l S lvs) C O lvs = pbN key num lc nk l L Wd S C O lvs :=
  Prod.ext (pbN_zp1 lvs lvs (Nat.le_refl _)) (pbN_2 lvs)
