/-! the invariant of a state, kept by every call -/
/-- a row whose slots bear valid leaves -/
def gR (nk lc : Nat) (w : Nat → Int32) : Prop := ∀ sl, sl < 4 → ∀ n, n < nk → w (6 * sl) - 1 = nI n → ∃ l, l < lc ∧ w (6 * sl + 1) = nI l
/-- blocks of the stash have valid leaves -/
def vL (nk lc : Nat) (O L : Nat → Int32) : Prop := ∀ n, n < nk → O n ≠ 0 → ∃ l, l < lc ∧ L n = nI l
/-- whole buckets open to good rows -/
def vS (nb nk lc : Nat) (key num : Int32) (C : Nat → Int32) (S : Nat → Nat → Int32) : Prop := ∀ b, b < nb → wholeB key num C S b → gR nk lc (decR key num C S b)
theorem gR_congr {nk lc : Nat} {w w' : Nat → Int32} (h : ∀ i, i < 24 → w i = w' i) (hw : gR nk lc w) : gR nk lc w' := fun sl hsl n hn e => by
  rw [← h (6 * sl) (by omega)] at e
  obtain ⟨l, a, b⟩ := hw sl hsl n hn e
  exact ⟨l, a, by rw [← h (6 * sl + 1) (by omega)]; exact b⟩
theorem gR_z {nk lc : Nat} (hk : nk ≤ 1000) : gR nk lc zrow := fun sl hsl n hn e => by
  have e1 : (0 : Int32) - 1 = nI n := e
  have e2 : (0 : Int32) - 1 = -1 := by decide
  exact absurd (e1.symm.trans e2) (nI_m1 (by omega))
theorem gR_put {nk lc sl m : Nat} {w wd : Nat → Int32} {lf : Int32} (hw : gR nk lc w) (hl : ∃ l, l < lc ∧ lf = nI l) : gR nk lc (putR w sl m lf wd) := fun sl' hsl' n hn e => by
  by_cases h : sl' = sl
  · subst h
    obtain ⟨l, a, b⟩ := hl
    refine ⟨l, a, ?_⟩
    have h1 : 6 * sl' ≤ 6 * sl' + 1 ∧ 6 * sl' + 1 < 6 * sl' + 6 := by omega
    show putK w sl' m lf wd 6 (6 * sl' + 1) = nI l
    simp only [putK, if_pos h1, sloV_1]
    exact b
  · have h1 : ¬ (6 * sl ≤ 6 * sl' ∧ 6 * sl' < 6 * sl + 6) := by omega
    have h2 : ¬ (6 * sl ≤ 6 * sl' + 1 ∧ 6 * sl' + 1 < 6 * sl + 6) := by omega
    have e1 : putR w sl m lf wd (6 * sl') = w (6 * sl') := by
      show putK w sl m lf wd 6 (6 * sl') = _
      simp only [putK, if_neg h1]
    have e2 : putR w sl m lf wd (6 * sl' + 1) = w (6 * sl' + 1) := by
      show putK w sl m lf wd 6 (6 * sl' + 1) = _
      simp only [putK, if_neg h2]
    rw [e1] at e
    rw [e2]
    exact hw sl' hsl' n hn e
theorem gR_fill {lc up b nk : Nat} {L : Nat → Int32} {Wd : Nat → Nat → Int32} {w0 O : Nat → Int32} (hL : vL nk lc O L) (h0 : gR nk lc w0) : ∀ k, k ≤ nk → gR nk lc (fillN lc up b L Wd w0 O k).1
  | 0, _ => h0
  | k + 1, hk => by
    have ih := gR_fill (up := up) (b := b) (Wd := Wd) hL h0 k (by omega)
    rw [fillN]
    by_cases hc : (fillN lc up b L Wd w0 O k).2.2 < 4 ∧ (fillN lc up b L Wd w0 O k).2.1 k ≠ 0 ∧ pathB lc (L k).toNatClampNeg up = b
    · rw [if_pos hc]
      exact gR_put ih (hL k (by omega) (fill_sub (P := fun n => O n ≠ 0) (fun n q => q) k k hc.2.1))
    · rw [if_neg hc]
      exact ih
theorem dec_seal {key num c : Int32} {b : Nat} {w C : Nat → Int32} {S : Nat → Nat → Int32} (hC : C b = c) (hS : S b = sealR key num c b w) : ∀ i, i < 24 → decR key num C S b i = w i := fun i hi => by
  show S b i ^^^ padF key num (C b) b i = w i
  have h24 : i ≠ 24 := by omega
  rw [hC, hS, sealR, pk_un h24]
  simp only [maskR, if_pos hi]
  rw [Int32.xor_assoc, Int32.xor_self, Int32.xor_zero]
theorem row_congr {key num : Int32} {b : Nat} {C C' : Nat → Int32} {S S' : Nat → Nat → Int32} (hS : S' b = S b) (hC : C' b = C b) : (wholeB key num C' S' b → wholeB key num C S b) ∧ decR key num C' S' b = decR key num C S b := by
  refine ⟨fun h => ?_, ?_⟩
  · have h1 : S' b 24 = tagF key num (C' b) b (S' b) := h
    rw [hS, hC] at h1
    exact h1
  · funext i
    show S' b i ^^^ padF key num (C' b) b i = S b i ^^^ padF key num (C b) b i
    rw [hS, hC]
theorem vS_pb {lc nb nk l : Nat} {key num : Int32} {L : Nat → Int32} {Wd : Nat → Nat → Int32} {S : Nat → Nat → Int32} {C O : Nat → Int32} (hk : nk ≤ 1000) (hL : vL nk lc O L) (h : vS nb nk lc key num C S) : ∀ k, vS nb nk lc key num (pbN key num lc nk l L Wd S C O k).2.1 (pbN key num lc nk l L Wd S C O k).1
  | 0 => h
  | k + 1 => by
    have ih := vS_pb (l := l) (Wd := Wd) hk hL h k
    intro b hb hw
    by_cases e : b = pathB lc l k
    · subst e
      have hL2 : vL nk lc (pbN key num lc nk l L Wd S C O k).2.2 L := fun n hn hO => hL n hn (pb_sub (P := fun n => O n ≠ 0) (fun n q => q) k n hO)
      refine gR_congr (fun i hi => (dec_seal (w := (fillN lc k (pathB lc l k) L Wd zrow (pbN key num lc nk l L Wd S C O k).2.2 nk).1) (c := (pbN key num lc nk l L Wd S C O k).2.1 (pathB lc l k) + 1) ?_ ?_ i hi).symm) (gR_fill hL2 (gR_z hk) nk (Nat.le_refl _))
      · rw [pbN]; exact pk_us
      · rw [pbN]; exact setRow_s
    · have e1 : (pbN key num lc nk l L Wd S C O (k + 1)).1 b = (pbN key num lc nk l L Wd S C O k).1 b := by
        rw [pbN]; exact setRow_n e
      have e2 : (pbN key num lc nk l L Wd S C O (k + 1)).2.1 b = (pbN key num lc nk l L Wd S C O k).2.1 b := by
        rw [pbN]; exact pk_un e
      obtain ⟨h1, h2⟩ := row_congr (key := key) (num := num) e1 e2
      rw [h2]
      exact ih b hb (h1 hw)
theorem vL_pb {lc nk l : Nat} {key num : Int32} {L : Nat → Int32} {Wd : Nat → Nat → Int32} {S : Nat → Nat → Int32} {C O : Nat → Int32} (h : vL nk lc O L) (k : Nat) : vL nk lc (pbN key num lc nk l L Wd S C O k).2.2 L := fun n hn hO => h n hn (pb_sub (P := fun n => O n ≠ 0) (fun n q => q) k n hO)
theorem vL_ho {nk lc sl : Nat} {row O L : Nat → Int32} (hsl : sl < 4) (hk : nk ≤ 1000) (hr : gR nk lc row) (h : vL nk lc O L) : vL nk lc (hoO nk row sl O) (hoL nk row sl L) := by
  by_cases hb : noB nk (row (6 * sl) - 1) = true
  · rw [hoO_n hb, hoL_n hb]; exact h
  · have hb2 := hb
    simp only [noB, Bool.or_eq_true, decide_eq_true_eq, not_or] at hb2
    obtain ⟨m, hm, e⟩ := noB_false (nk := nk) (by omega) hb2.1 hb2.2
    rw [hoO_y hm (by omega) e, hoL_y hm (by omega) e]
    intro n hn hO
    by_cases hnm : n = m
    · subst hnm
      rw [pk_us]
      exact hr sl hsl n hn e
    · rw [pk_un hnm] at hO
      rw [pk_un hnm]
      exact h n hn hO
theorem vL_op {nk lc : Nat} {row O L : Nat → Int32} (hk : nk ≤ 1000) (hr : gR nk lc row) (h : vL nk lc O L) : ∀ k, k ≤ 4 → vL nk lc (opO nk row O k) (opL nk row L k)
  | 0, _ => h
  | k + 1, h4 => vL_ho (by omega) hk hr (vL_op hk hr h k (by omega))
theorem vL_tk {nk lc K : Nat} {rows : Nat → Nat → Int32} {O L : Nat → Int32} (hk : nk ≤ 1000) (hr : ∀ k, k < K → gR nk lc (rows k)) (h : vL nk lc O L) : ∀ k, k ≤ K → vL nk lc (tkO nk rows O k) (tkL nk rows L k)
  | 0, _ => h
  | k + 1, hK => vL_op hk (hr k (by omega)) (vL_tk hk hr h k (by omega)) 4 (Nat.le_refl 4)
theorem vL_up {nk lc d : Nat} {O L : Nat → Int32} {v : Int32} (h : vL nk lc O L) (hv : ∃ l, l < lc ∧ v = nI l) : vL nk lc O (upd L d v) := fun n hn hO => by
  by_cases hd : n = d
  · subst hd; rw [pk_us]; exact hv
  · rw [pk_un hd]; exact h n hn hO
/-- behind a take: the stash is valid still -/
theorem vL_take {lc lvs nb nk l d : Nat} {key num : Int32} {C O L : Nat → Int32} {S : Nat → Nat → Int32} {v : Int32} (hT : TP lc lvs nb nk) (hk : nk ≤ 1000) (hl : l < lc) (hL : vL nk lc O L) (h : vS nb nk lc key num C S) (hw : ∀ up, up < lvs → wholeB key num C S (pathB lc l up)) (hv : ∃ l, l < lc ∧ v = nI l) :
    vL nk lc (tkO nk (rowsP key num C S lc l) O lvs) (upd (tkL nk (rowsP key num C S lc l) L lvs) d v) :=
  vL_up (vL_tk hk (fun k hK => h _ (pathB_lt hT hl) (hw k hK)) hL lvs (Nat.le_refl _)) hv
theorem vS_alter {nb nk lc b : Nat} {key num : Int32} {C r : Nat → Int32} {S : Nat → Nat → Int32} (hn : ¬ wholeB key num C (setRow S b r) b) (h : vS nb nk lc key num C S) : vS nb nk lc key num C (setRow S b r) := fun b' hb' hw => by
  by_cases e : b' = b
  · subst e; exact absurd hw hn
  · obtain ⟨h1, h2⟩ := row_congr (key := key) (num := num) (C := C) (C' := C) (S := S) (S' := setRow S b r) (setRow_n e) rfl
    rw [h2]
    exact h b' hb' (h1 hw)
/-- the start: settled rows are good -/
theorem gR_st {nk lc lvs l n : Nat} {lf : Int32} {wd : Nat → Int32} {S : Nat → Nat → Int32} (h : ∀ b, gR nk lc (S b)) (hl : ∃ l, l < lc ∧ lf = nI l) : ∀ b, gR nk lc (stS lc lvs l n lf wd S b) := fun b => by
  rw [stS]
  by_cases hc : stQ lc lvs l S < 4 * lvs
  · rw [if_pos hc]
    by_cases e : b = pathB lc l (stQ lc lvs l S / 4)
    · subst e; rw [setRow_s]; exact gR_put (h _) hl
    · rw [setRow_n e]; exact h b
  · rw [if_neg hc]; exact h b
theorem gR_sa {nk lc lvs : Nat} {L : Nat → Int32} {Wd : Nat → Nat → Int32} {S : Nat → Nat → Int32} {O : Nat → Int32} (h : ∀ b, gR nk lc (S b)) (hL : ∀ n, ∃ l, l < lc ∧ L n = nI l) : ∀ k b, gR nk lc ((saN lc lvs L Wd S O k).1 b)
  | 0, b => h b
  | k + 1, b => gR_st (fun b => gR_sa h hL k b) (hL k) b
theorem vS_se {nb nk lc : Nat} {key num : Int32} {C : Nat → Int32} {S : Nat → Nat → Int32} (h : ∀ b, gR nk lc (S b)) : vS nb nk lc key num C (seK key num C S nb) := fun b hb _ => by
  refine gR_congr (fun i hi => (dec_seal (c := C b) (w := S b) rfl ?_ i hi).symm) (h b)
  simp only [seK, if_pos hb]
theorem vS_s0 (k g : Int32) : vS 7 8 4 k 0 (fun _ => 1) (s0S k g) := vS_se (gR_sa (fun _ => gR_z (by decide)) (fun n => ⟨_, drw_lt (n := 2) _ (by decide), rfl⟩) 8)
theorem vS_s1 (k g : Int32) : vS 63 64 32 k 1 (fun _ => 1) (s1S k g) := vS_se (gR_sa (fun _ => gR_z (by decide)) (fun n => ⟨_, drw_lt (n := 5) _ (by decide), rfl⟩) 64)
theorem vL_l0 (g : Int32) (O : Nat → Int32) : vL 8 4 O (l0S g) := fun n _ _ => ⟨_, drw_lt (n := 2) _ (by decide), rfl⟩
theorem vL_l1 (g : Int32) (O : Nat → Int32) : vL 64 32 O (l1S g) := fun n _ _ => ⟨_, drw_lt (n := 5) _ (by decide), rfl⟩
/-- n numbers don't reach all below m -/
theorem ph_miss : ∀ (n m : Nat) (g : Nat → Nat), n < m → ∃ d, d < m ∧ ∀ k, k < n → g k ≠ d
  | 0, m, g, h => ⟨0, h, fun k hk => absurd hk (Nat.not_lt_zero k)⟩
  | n + 1, m, g, h => by
    obtain ⟨d, hd, hg⟩ := ph_miss n (m - 1) (fun k => if g n < g k then g k - 1 else g k) (by omega)
    refine ⟨if g n ≤ d then d + 1 else d, by split <;> omega, fun k hk => ?_⟩
    by_cases hkn : k = n
    · subst hkn
      split <;> omega
    · have h1 := hg k (by omega)
      intro e
      apply h1
      show (if g n < g k then g k - 1 else g k) = d
      split at e <;> split <;> omega
/-- the book: sizes, parts, blocks taken -/
def bI (TH : Nat → Int32) (SZ PT : Nat → Nat) (TK : Nat → Int32) : Prop :=
  (∀ f, f < 8 → SZ f ≤ 24) ∧ (∀ k, PT k < 64) ∧ (∀ f j, f < 8 → TH f ≠ 0 → j < (SZ f + 3) / 4 → TK (PT (6 * f + j)) = 1) ∧
  (∀ f j f' j', f < 8 → f' < 8 → TH f ≠ 0 → TH f' ≠ 0 → j < (SZ f + 3) / 4 → j' < (SZ f' + 3) / 4 → PT (6 * f + j) = PT (6 * f' + j') → f = f' ∧ j = j') ∧
  (∀ d, d < 64 → TK d ≠ 0 → ∃ f j, f < 8 ∧ TH f ≠ 0 ∧ j < (SZ f + 3) / 4 ∧ PT (6 * f + j) = d)
theorem frQ_lt {TK : Nat → Int32} {n d : Nat} (hd : d < n) (h : TK d = 0) : frQ TK n < n ∧ TK (frQ TK n) = 0 := by
  obtain ⟨h1, h2, h3⟩ := ff_spec (fun f => decide (TK f = 0)) n
  have hlt : frQ TK n < n := by
    rcases Nat.lt_or_ge (frQ TK n) n with q | q
    · exact q
    · have h4 := h2 d (Nat.lt_of_lt_of_le hd q)
      simp [h] at h4
  exact ⟨hlt, of_decide_eq_true (h3 hlt)⟩
theorem bI_free {TH : Nat → Int32} {SZ PT : Nat → Nat} {TK : Nat → Int32} (h : bI TH SZ PT TK) : frQ TK 64 < 64 ∧ TK (frQ TK 64) = 0 := by
  obtain ⟨h1, h2, h3, h4, h5⟩ := h
  obtain ⟨d, hd, hg⟩ := ph_miss 48 64 PT (by decide)
  refine frQ_lt hd ?_
  by_cases hz : TK d = 0
  · exact hz
  · obtain ⟨f, j, hf, ht, hj, e⟩ := h5 d hd hz
    have := h1 f hf
    exact absurd e (hg _ (by omega))
theorem bI_start {TH : Nat → Int32} {SZ PT : Nat → Nat} {TK : Nat → Int32} (h : bI TH SZ PT TK) : bI (fun _ => 0) SZ PT (fun _ => 0) :=
  ⟨h.1, h.2.1, fun f j _ ht => absurd rfl ht, fun f j f' j' _ _ ht => absurd rfl ht, fun d _ hz => absurd rfl hz⟩
theorem bI_zero : bI (fun _ => 0) (fun _ => 0) (fun _ => 0) (fun _ => 0) :=
  ⟨fun _ _ => Nat.zero_le 24, fun _ => Nat.zero_lt_succ 63, fun f j _ ht => absurd rfl ht, fun f j f' j' _ _ ht => absurd rfl ht, fun d _ hz => absurd rfl hz⟩
theorem bI_add {TH : Nat → Int32} {NM : Nat → Int64} {SZ PT : Nat → Nat} {TK : Nat → Int32} (x : Int64) (h : bI TH SZ PT TK) : bI (adTH TH NM x) (adSZ TH NM SZ x) PT TK := by
  by_cases hok : adOk TH NM x = true
  · have e1 : adTH TH NM x = upd TH (frQ TH 8) 1 := by simp only [adTH, if_pos hok]
    have e2 : adSZ TH NM SZ x = upN SZ (frQ TH 8) 0 := by simp only [adSZ, if_pos hok]
    rw [e1, e2]
    have hq : frQ TH 8 < 8 := by
      simp only [adOk, Bool.and_eq_true, decide_eq_true_eq] at hok
      exact hok.1
    have h0 : TH (frQ TH 8) = 0 := by
      obtain ⟨a1, a2, a3⟩ := ff_spec (fun f => decide (TH f = 0)) 8
      exact of_decide_eq_true (a3 hq)
    generalize frQ TH 8 = q at hq h0
    obtain ⟨h1, h2, h3, h4, h5⟩ := h
    have hne : ∀ f j, j < (upN SZ q 0 f + 3) / 4 → f ≠ q := fun f j hj e => by
      subst e; rw [upN_s] at hj; omega
    refine ⟨fun f hf => ?_, h2, fun f j hf ht hj => ?_, fun f j f' j' hf hf' ht ht' hj hj' e => ?_, fun d hd hz => ?_⟩
    · by_cases e : f = q
      · subst e; rw [upN_s]; omega
      · rw [upN_n e]; exact h1 f hf
    · have hn := hne f j hj
      rw [pk_un hn] at ht
      rw [upN_n hn] at hj
      exact h3 f j hf ht hj
    · have hn := hne f j hj
      have hn' := hne f' j' hj'
      rw [pk_un hn] at ht
      rw [upN_n hn] at hj
      rw [pk_un hn'] at ht'
      rw [upN_n hn'] at hj'
      exact h4 f j f' j' hf hf' ht ht' hj hj' e
    · obtain ⟨f, j, hf, ht, hj, e⟩ := h5 d hd hz
      have hn : f ≠ q := fun z => by subst z; exact ht h0
      exact ⟨f, j, hf, by rw [pk_un hn]; exact ht, by rw [upN_n hn]; exact hj, e⟩
  · have e1 : adTH TH NM x = TH := by simp only [adTH, if_neg hok]
    have e2 : adSZ TH NM SZ x = SZ := by simp only [adSZ, if_neg hok]
    rw [e1, e2]; exact h
theorem drK_at {PT : Nat → Nat} {f d : Nat} {TK : Nat → Int32} : ∀ n, (∃ j, j < n ∧ PT (6 * f + j) = d) → drK PT f TK n d = 0
  | 0, ⟨j, hj, _⟩ => absurd hj (Nat.not_lt_zero j)
  | n + 1, ⟨j, hj, e⟩ => by
    show upd (drK PT f TK n) (PT (6 * f + n)) 0 d = 0
    by_cases hd : d = PT (6 * f + n)
    · subst hd; exact pk_us
    · rw [pk_un hd]
      refine drK_at n ⟨j, ?_, e⟩
      have : j ≠ n := fun z => by subst z; exact hd e.symm
      omega
theorem drK_ne {PT : Nat → Nat} {f d : Nat} {TK : Nat → Int32} : ∀ n, (∀ j, j < n → PT (6 * f + j) ≠ d) → drK PT f TK n d = TK d
  | 0, _ => rfl
  | n + 1, h => by
    show upd (drK PT f TK n) (PT (6 * f + n)) 0 d = TK d
    rw [pk_un (fun z => h n (by omega) z.symm)]
    exact drK_ne n (fun j hj => h j (by omega))
theorem bI_drop {TH : Nat → Int32} {SZ PT : Nat → Nat} {TK : Nat → Int32} {f : Nat} (hf : f < 8) (ht : TH f ≠ 0) (h : bI TH SZ PT TK) : bI (upd TH f 0) SZ PT (drK PT f TK ((SZ f + 3) / 4)) := by
  obtain ⟨h1, h2, h3, h4, h5⟩ := h
  have hlive : ∀ g, upd TH f 0 g ≠ 0 → g ≠ f ∧ TH g ≠ 0 := fun g hg => by
    have hn : g ≠ f := fun z => by subst z; exact hg pk_us
    rw [pk_un hn] at hg
    exact ⟨hn, hg⟩
  refine ⟨h1, h2, fun g j hg htg hj => ?_, fun g j g' j' hg hg' htg htg' hj hj' e => ?_, fun d hd hz => ?_⟩
  · obtain ⟨hn, htg⟩ := hlive g htg
    rw [drK_ne]
    · exact h3 g j hg htg hj
    · intro j' hj' e
      exact hn (h4 g j f j' hg hf htg ht hj hj' e.symm).1
  · exact h4 g j g' j' hg hg' (hlive g htg).2 (hlive g' htg').2 hj hj' e
  · have hno : ∀ j, j < (SZ f + 3) / 4 → PT (6 * f + j) ≠ d := fun j hj e => hz (drK_at _ ⟨j, hj, e⟩)
    rw [drK_ne _ hno] at hz
    obtain ⟨g, j, hg, htg, hj, e⟩ := h5 d hd hz
    have hn : g ≠ f := fun z => by subst z; exact hno j hj e
    exact ⟨g, j, hg, by rw [pk_un hn]; exact htg, hj, e⟩
theorem bI_open {TH : Nat → Int32} {SZ PT : Nat → Nat} {TK : Nat → Int32} {f i d : Nat} (hf : f < 8) (ht : TH f ≠ 0) (hi : i = SZ f) (hm : i % 4 = 0) (hi2 : i < 24) (hd : d < 64) (hz : TK d = 0) (h : bI TH SZ PT TK) :
    bI TH (upN SZ f (SZ f + 1)) (upN PT (6 * f + i / 4) d) (upd TK d 1) := by
  obtain ⟨h1, h2, h3, h4, h5⟩ := h
  -- an old part is not the new one, and is taken
  have old : ∀ g j, g < 8 → TH g ≠ 0 → j < (SZ g + 3) / 4 → 6 * g + j ≠ 6 * f + i / 4 ∧ PT (6 * g + j) ≠ d := fun g j hg htg hj => by
    have a1 := h1 g hg
    refine ⟨fun e => ?_, fun e => ?_⟩
    · have : g = f := by omega
      subst this
      omega
    · have := h3 g j hg htg hj
      rw [e, hz] at this
      exact absurd this (by decide)
  -- a part behind the write: an old one or the new one
  have new : ∀ g j, g < 8 → j < (upN SZ f (SZ f + 1) g + 3) / 4 → j < (SZ g + 3) / 4 ∨ (g = f ∧ j = i / 4) := fun g j hg hj => by
    by_cases e : g = f
    · subst e
      rw [upN_s] at hj
      rcases Nat.lt_or_ge j ((SZ g + 3) / 4) with q | q
      · exact Or.inl q
      · exact Or.inr ⟨rfl, by omega⟩
    · rw [upN_n e] at hj; exact Or.inl hj
  have at_old : ∀ g j, g < 8 → TH g ≠ 0 → j < (SZ g + 3) / 4 → upN PT (6 * f + i / 4) d (6 * g + j) = PT (6 * g + j) := fun g j hg htg hj => upN_n (old g j hg htg hj).1
  refine ⟨fun g hg => ?_, fun k => ?_, fun g j hg htg hj => ?_, fun g j g' j' hg hg' htg htg' hj hj' e => ?_, fun d' hd' hz' => ?_⟩
  · by_cases e : g = f
    · subst e; rw [upN_s]; omega
    · rw [upN_n e]; exact h1 g hg
  · by_cases e : k = 6 * f + i / 4
    · subst e; rw [upN_s]; exact hd
    · rw [upN_n e]; exact h2 k
  · rcases new g j hg hj with q | ⟨rfl, rfl⟩
    · rw [at_old g j hg htg q, pk_un (old g j hg htg q).2]
      exact h3 g j hg htg q
    · rw [upN_s]; exact pk_us
  · rcases new g j hg hj with q | ⟨rfl, rfl⟩ <;> rcases new g' j' hg' hj' with q' | ⟨rfl, rfl⟩
    · rw [at_old g j hg htg q, at_old g' j' hg' htg' q'] at e
      exact h4 g j g' j' hg hg' htg htg' q q' e
    · rw [at_old g j hg htg q, upN_s] at e
      exact absurd e (old g j hg htg q).2
    · rw [at_old g' j' hg' htg' q', upN_s] at e
      exact absurd e.symm (old g' j' hg' htg' q').2
    · exact ⟨rfl, rfl⟩
  · by_cases e : d' = d
    · subst e
      exact ⟨f, i / 4, hf, ht, by rw [upN_s]; omega, upN_s⟩
    · rw [pk_un e] at hz'
      obtain ⟨g, j, hg, htg, hj, e2⟩ := h5 d' hd' hz'
      refine ⟨g, j, hg, htg, ?_, by rw [at_old g j hg htg hj]; exact e2⟩
      by_cases e3 : g = f
      · subst e3; rw [upN_s]; omega
      · rw [upN_n e3]; exact hj
theorem bI_ext {TH : Nat → Int32} {SZ PT : Nat → Nat} {TK : Nat → Int32} {f i : Nat} (hi : i = SZ f) (hm : ¬ i % 4 = 0) (hi2 : i < 24) (h : bI TH SZ PT TK) : bI TH (upN SZ f (SZ f + 1)) PT TK := by
  obtain ⟨h1, h2, h3, h4, h5⟩ := h
  have hp : ∀ g, (upN SZ f (SZ f + 1) g + 3) / 4 = (SZ g + 3) / 4 := fun g => by
    by_cases e : g = f
    · subst e; rw [upN_s]; omega
    · rw [upN_n e]
  refine ⟨fun g hg => ?_, h2, fun g j hg htg hj => h3 g j hg htg (by rw [← hp g]; exact hj), fun g j g' j' hg hg' htg htg' hj hj' e => h4 g j g' j' hg hg' htg htg' (by rw [← hp g]; exact hj) (by rw [← hp g']; exact hj') e, fun d hd hz => ?_⟩
  · by_cases e : g = f
    · subst e; rw [upN_s]; omega
    · rw [upN_n e]; exact h1 g hg
  · obtain ⟨g, j, hg, htg, hj, e⟩ := h5 d hd hz
    exact ⟨g, j, hg, htg, by rw [hp g]; exact hj, e⟩
theorem upN_lt {g : Nat → Nat} {k v n : Nat} (h : ∀ j, g j < n) (hv : v < n) : ∀ j, upN g k v j < n := fun j => by
  by_cases e : j = k
  · subst e; rw [upN_s]; exact hv
  · rw [upN_n e]; exact h j
