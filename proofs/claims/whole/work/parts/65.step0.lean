/-! the steps: what one call of the class and of the reference does to the two worlds -/
abbrev sI (k : Nat) (G G' ky DE : Int32) (cn : Nat) (S0 : Nat → Nat → Int32) (C0 O0 L0 : Nat → Int32) (S1 : Nat → Nat → Int32) (C1 O1 L1 : Nat → Int32) (MP : Nat → Nat) (TH : Nat → Int32) (SZ PT : Nat → Nat) (TK : Nat → Int32) : Prop :=
  (DE = 0 → G = G') ∧ vS 7 8 4 ky 0 C0 S0 ∧ vL 8 4 O0 L0 ∧ vS 63 64 32 ky 1 C1 S1 ∧ vL 64 32 O1 L1 ∧ (∀ j, MP j < 4) ∧ bI TH SZ PT TK ∧ cn ≤ k
/-- the two worlds bear one state -/
def IX (cI cZ cJ : ClassId) (vf di t0 st0 ct0 hd0 lv0 wd0 t1 st1 ct1 hd1 lv1 wd1 mp bk nm ln pt tk tr ml dl mo se co ou le wo ma pl tl tm th na si pa ta k : Nat) (wx wm : va_W) : Prop := ∃ (thr G G' ky DE : Int32) (cn : Nat) (got : Int32) (S0 : Nat → Nat → Int32) (C0 O0 L0 : Nat → Int32) (W0 S1 : Nat → Nat → Int32) (C1 O1 L1 : Nat → Int32) (W1 : Nat → Nat → Int32) (MP : Nat → Nat) (PL ML DL TH : Nat → Int32) (NM : Nat → Int64) (SZ PT : Nat → Nat) (TK : Nat → Int32), wx = wV cI cZ cJ vf di t0 st0 ct0 hd0 lv0 wd0 t1 st1 ct1 hd1 lv1 wd1 mp bk nm ln pt tk tr ml dl G ky S0 C0 O0 L0 W0 ky S1 C1 O1 L1 W1 MP NM TH SZ PT TK ML DL cn DE ∧ wm = wM cI cZ cJ mo se co ou le wo ma pl tl tm th na si pa ta thr G' ky DE cn got S0 C0 O0 L0 W0 S1 C1 O1 L1 W1 MP PL ML DL TH NM SZ PT TK ∧ sI k G G' ky DE cn S0 C0 O0 L0 S1 C1 O1 L1 MP TH SZ PT TK
theorem ix {cI cZ cJ : ClassId} {vf di t0 st0 ct0 hd0 lv0 wd0 t1 st1 ct1 hd1 lv1 wd1 mp bk nm ln pt tk tr ml dl mo se co ou le wo ma pl tl tm th na si pa ta k : Nat} {thr G G' ky DE : Int32} {cn : Nat} {got : Int32} {S0 : Nat → Nat → Int32} {C0 O0 L0 : Nat → Int32} {W0 S1 : Nat → Nat → Int32} {C1 O1 L1 : Nat → Int32} {W1 : Nat → Nat → Int32} {MP : Nat → Nat} {PL ML DL TH : Nat → Int32} {NM : Nat → Int64} {SZ PT : Nat → Nat} {TK : Nat → Int32} (h : sI k G G' ky DE cn S0 C0 O0 L0 S1 C1 O1 L1 MP TH SZ PT TK) : IX cI cZ cJ vf di t0 st0 ct0 hd0 lv0 wd0 t1 st1 ct1 hd1 lv1 wd1 mp bk nm ln pt tk tr ml dl mo se co ou le wo ma pl tl tm th na si pa ta k (wV cI cZ cJ vf di t0 st0 ct0 hd0 lv0 wd0 t1 st1 ct1 hd1 lv1 wd1 mp bk nm ln pt tk tr ml dl G ky S0 C0 O0 L0 W0 ky S1 C1 O1 L1 W1 MP NM TH SZ PT TK ML DL cn DE) (wM cI cZ cJ mo se co ou le wo ma pl tl tm th na si pa ta thr G' ky DE cn got S0 C0 O0 L0 W0 S1 C1 O1 L1 W1 MP PL ML DL TH NM SZ PT TK) :=
  ⟨thr, G, G', ky, DE, cn, got, S0, C0, O0, L0, W0, S1, C1, O1, L1, W1, MP, PL, ML, DL, TH, NM, SZ, PT, TK, rfl, rfl, h⟩
theorem wV_0 {cI cZ cJ : ClassId} {vf di t0 st0 ct0 hd0 lv0 wd0 t1 st1 ct1 hd1 lv1 wd1 mp bk nm ln pt tk tr ml dl : Nat} {G ky0 : Int32} {S0 : Nat → Nat → Int32} {C0 O0 L0 : Nat → Int32} {W0 : Nat → Nat → Int32} {ky1 : Int32} {S1 : Nat → Nat → Int32} {C1 O1 L1 : Nat → Int32} {W1 : Nat → Nat → Int32} {MP : Nat → Nat} {NM : Nat → Int64} {TH : Nat → Int32} {SZ PT : Nat → Nat} {TK ML DL : Nat → Int32} {cn : Nat} {DE : Int32} : (wV cI cZ cJ vf di t0 st0 ct0 hd0 lv0 wd0 t1 st1 ct1 hd1 lv1 wd1 mp bk nm ln pt tk tr ml dl G ky0 S0 C0 O0 L0 W0 ky1 S1 C1 O1 L1 W1 MP NM TH SZ PT TK ML DL cn DE)[0]? = some (vf, .inr (4, [.ref di, .ref t0, .ref t1, .ref mp, .ref bk, .ref tr, .int DE])) := rfl
theorem wM_0 {cI cZ cJ : ClassId} {mo se co ou le wo ma pl tl tm th na si pa ta : Nat} {thr G ky DE : Int32} {cn : Nat} {got : Int32} {S0 : Nat → Nat → Int32} {C0 O0 L0 : Nat → Int32} {W0 S1 : Nat → Nat → Int32} {C1 O1 L1 : Nat → Int32} {W1 : Nat → Nat → Int32} {MP : Nat → Nat} {PL ML DL TH : Nat → Int32} {NM : Nat → Int64} {SZ PT : Nat → Nat} {TK : Nat → Int32} : (wM cI cZ cJ mo se co ou le wo ma pl tl tm th na si pa ta thr G ky DE cn got S0 C0 O0 L0 W0 S1 C1 O1 L1 W1 MP PL ML DL TH NM SZ PT TK)[0]? = some (mo, .inr (5, [.int thr, .int G, .int ky, .int DE, .int (nI cn), .ref se, .ref co, .ref ou, .ref le, .ref wo, .ref ma, .ref pl, .ref tl, .ref tm, .ref th, .ref na, .ref si, .ref pa, .ref ta, .int got])) := rfl
theorem th_m {l : Launch} {D : va_G} {cI cZ cJ : ClassId} {mo se co ou le wo ma pl tl tm th na si pa ta : Nat} {thr G ky DE : Int32} {cn : Nat} {got : Int32} {S0 : Nat → Nat → Int32} {C0 O0 L0 : Nat → Int32} {W0 S1 : Nat → Nat → Int32} {C1 O1 L1 : Nat → Int32} {W1 : Nat → Nat → Int32} {MP : Nat → Nat} {PL ML DL TH : Nat → Int32} {NM : Nat → Int64} {SZ PT : Nat → Nat} {TK : Nat → Int32} : KI l yX5_thrown wsX5_thrown ({ frames := 0, cells := 0, slots := 0, locals := 0 }) D (kty cI cZ cJ) [.ref mo] (wM cI cZ cJ mo se co ou le wo ma pl tl tm th na si pa ta thr G ky DE cn got S0 C0 O0 L0 W0 S1 C1 O1 L1 W1 MP PL ML DL TH NM SZ PT TK) (fun r (_ : Unit) => r = thr) (fun _ : Unit => (wM cI cZ cJ mo se co ou le wo ma pl tl tm th na si pa ta thr G ky DE cn got S0 C0 O0 L0 W0 S1 C1 O1 L1 W1 MP PL ML DL TH NM SZ PT TK)) 0 0 := c_m_thrown l D cI cZ cJ mo se co ou le wo ma pl tl tm th na si pa ta thr G ky DE cn got S0 C0 O0 L0 W0 S1 C1 O1 L1 W1 MP PL ML DL TH NM SZ PT TK
theorem ix_tree (x : Int32) : x = 0 ∨ x = 1 ∨ (¬ x = 0 ∧ ¬ x = 1) := by
  by_cases h : x = 0
  · exact Or.inl h
  · by_cases h1 : x = 1
    · exact Or.inr (Or.inl h1)
    · exact Or.inr (Or.inr ⟨h, h1⟩)
theorem ix_nob (n : Nat) (hn : n < 2147483648) (y : Int32) : noB n y = true ∨ ∃ b, b < n ∧ y = nI b := by
  by_cases h : noB n y = true
  · exact Or.inl h
  · have h2 := h
    simp only [noB, Bool.or_eq_true, decide_eq_true_eq, not_or] at h2
    exact Or.inr (noB_false hn h2.1 h2.2)
theorem ix_file (TH : Nat → Int32) (x : Int32) : notF TH x ∨ ∃ f, f < 8 ∧ x = nI f ∧ ¬ TH f = 0 := by
  rcases ix_nob 8 (by decide) x with h | ⟨f, hf, e⟩
  · exact Or.inl (Or.inl h)
  · by_cases ht : TH f = 0
    · exact Or.inl (Or.inr ⟨f, hf, e, ht⟩)
    · exact Or.inr ⟨f, hf, e, ht⟩
theorem ix_read (TH : Nat → Int32) (SZ : Nat → Nat) (x y : Int32) (hSZ : ∀ f, f < 8 → SZ f ≤ 24) : badR TH SZ x y ∨ ∃ f j, f < 8 ∧ x = nI f ∧ ¬ TH f = 0 ∧ j < SZ f ∧ y = nI j := by
  by_cases h0 : y < 0
  · exact Or.inl (Or.inl h0)
  · rcases ix_file TH x with h | ⟨f, hf, e, ht⟩
    · exact Or.inl (Or.inr (Or.inl h))
    · by_cases h1 : nI (SZ f) ≤ y
      · exact Or.inl (Or.inr (Or.inr ⟨f, hf, e, ht, h1⟩))
      · have := hSZ f hf
        obtain ⟨j, hj, ej⟩ := noB_false (nk := SZ f) (by omega) h0 h1
        exact Or.inr ⟨f, j, hf, e, ht, hj, ej⟩
theorem ix_write (TH : Nat → Int32) (SZ : Nat → Nat) (x y : Int32) (hSZ : ∀ f, f < 8 → SZ f ≤ 24) : badW TH SZ x y ∨ ∃ f j, f < 8 ∧ x = nI f ∧ ¬ TH f = 0 ∧ j ≤ SZ f ∧ j < 24 ∧ y = nI j := by
  by_cases h0 : y < 0
  · exact Or.inl (Or.inl h0)
  · rcases ix_file TH x with h | ⟨f, hf, e, ht⟩
    · exact Or.inl (Or.inr (Or.inl h))
    · by_cases h1 : nI 24 ≤ y
      · exact Or.inl (Or.inr (Or.inr ⟨f, hf, e, ht, Or.inr h1⟩))
      · obtain ⟨j, hj, ej⟩ := noB_false (nk := 24) (by decide) h0 h1
        by_cases h2 : nI (SZ f) < y
        · exact Or.inl (Or.inr (Or.inr ⟨f, hf, e, ht, Or.inl h2⟩))
        · have := hSZ f hf
          refine Or.inr ⟨f, j, hf, e, ht, ?_, hj, ej⟩
          rcases Nat.lt_or_ge (SZ f) j with q | q
          · exact absurd (ej ▸ nI_lt q (by omega)) h2
          · exact q
theorem ix_path (P : Nat → Prop) : ∀ n, (∃ j0, j0 < n ∧ (∀ up, up < j0 → P up) ∧ ¬ P j0) ∨ ∀ up, up < n → P up
  | 0 => Or.inr (fun up h => absurd h (Nat.not_lt_zero up))
  | n + 1 => by
    rcases ix_path P n with ⟨j0, hj, hw, hn⟩ | h
    · exact Or.inl ⟨j0, by omega, hw, hn⟩
    · by_cases hp : P n
      · refine Or.inr (fun up hu => ?_)
        rcases Nat.lt_or_ge up n with q | q
        · exact h up q
        · have : up = n := by omega
          subst this; exact hp
      · exact Or.inl ⟨n, by omega, h, hp⟩
theorem ix_state (x : Int32) : x = 0 ∨ x = 1 ∨ x = 2 ∨ x = 3 ∨ (x.toInt < 0 ∨ 3 < x.toInt) := by
  have e0 : x.toInt = 0 → x = 0 := fun h => Int32.toInt_inj.mp (h.trans (by decide))
  have e1 : x.toInt = 1 → x = 1 := fun h => Int32.toInt_inj.mp (h.trans (by decide))
  have e2 : x.toInt = 2 → x = 2 := fun h => Int32.toInt_inj.mp (h.trans (by decide))
  have e3 : x.toInt = 3 → x = 3 := fun h => Int32.toInt_inj.mp (h.trans (by decide))
  by_cases h : x.toInt < 0 ∨ 3 < x.toInt
  · exact Or.inr (Or.inr (Or.inr (Or.inr h)))
  · have h4 : x.toInt = 0 ∨ x.toInt = 1 ∨ x.toInt = 2 ∨ x.toInt = 3 := by omega
    rcases h4 with q | q | q | q
    · exact Or.inl (e0 q)
    · exact Or.inr (Or.inl (e1 q))
    · exact Or.inr (Or.inr (Or.inl (e2 q)))
    · exact Or.inr (Or.inr (Or.inr (Or.inl (e3 q))))
