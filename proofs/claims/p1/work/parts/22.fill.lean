/-! ===== Arrays.fill ===== -/
def m_fil (f : Nat → Nat → Int32) (k n : Nat) (v : Int32) : Nat → Nat → Int32 := fun a i => if a = k ∧ i < n then v else f a i
theorem m_fil_0 (f : Nat → Nat → Int32) (k : Nat) (v : Int32) : m_fil f k 0 v = f := by
  funext a i
  simp [m_fil]
theorem m_fil_up (f : Nat → Nat → Int32) (k n : Nat) (v : Int32) : m_ui (m_fil f k n v) k n v = m_fil f k (n + 1) v := by
  funext a i
  unfold m_ui m_fil
  by_cases h1 : a = k
  · subst h1
    by_cases h2 : i = n
    · subst h2
      simp
    · rw [if_pos rfl, if_neg h2]
      by_cases h3 : i < n
      · rw [if_pos ⟨rfl, h3⟩, if_pos ⟨rfl, by omega⟩]
      · rw [if_neg (fun q => h3 q.2), if_neg (fun q => by omega)]
  · rw [if_neg h1, if_neg (fun q => h1 q.1), if_neg (fun q => h1 q.1)]
theorem fill_loop {d : Nat} {l : List mS} {f : Nat → Nat → Int32} {g : Nat → Nat → Int64} {k n : Nat} {r : List (Option Nat)} {v : Int32} {Q : Option Value → mH → Prop} (hk : m_nth l k = some (100, n, r)) (hn : n < 2 ^ 31) (hQ : Q none (l, m_fil f k n v, g)) :
    ∀ j i : Nat, i + j = n → WPe pg_J7_fill_53178 none (Run mtab d) Q (m_drop pg_J7_fill_53178 5) [some (.ref k), some (.int v), some (.int (nI i)), some (.int (nI n))] [] (l, m_fil f k i v, g)
  | 0, i, hi => by
    have e : i = n := by omega
    subst e
    refine at_J7_fill_53178 ?_
    conv => whnf
    refine ⟨fun c1 => ?_, fun c1 => ?_⟩
    · exact hQ
    · exact absurd (nI_le (Nat.le_refl i) hn) c1
  | j + 1, i, hi => by
    refine at_J7_fill_53178 ?_
    conv => whnf
    refine ⟨fun c1 => ?_, fun c1 => ?_⟩
    · exact absurd c1 (nI_ge (by omega) hn)
    · have ih := fill_loop hk hn hQ j (i + 1) (by omega)
      rw [nI_succ, ← m_fil_up] at ih
      have hin : vp_in (nI i) n := nI_in (by omega) hn
      have hc : (nI i).toNatClampNeg = i := nI_clamp (by omega)
      conv => whnf
      rw [hk]
      refine ⟨hin, ?_⟩
      rw [← hc] at ih
      exact ih
theorem ct_fill {d : Nat} {l : List mS} {f : Nat → Nat → Int32} {g : Nat → Nat → Int64} {k n : Nat} {r : List (Option Nat)} {v : Int32} {R : Option Value → mH → Prop} (hk : m_nth l k = some (100, n, r)) (hn : n < 2 ^ 31) (hR : R none (l, m_fil f k n v, g)) : Run mtab (d + 1) 244 [.ref k, .int v] (l, f, g) R := by
  refine go_J7_fill_53178 rfl ?_
  conv => whnf
  rw [hk]
  conv => whnf
  have := fill_loop (d := d) hk hn hR n 0 (by omega)
  rw [m_fil_0] at this
  exact this
