/-! ===== THE LAW ===== -/
def ff (f : Nat → Nat → Int32) : Prop := ∀ a i, 6 ≤ a → f a i = if a < 227 then inix a i else 0
def mf (f : Nat → Nat → Int32) : Prop := ∀ a i, 181 ≤ a → f a i = if a < 227 then inix a i else 0
theorem ff_m {f : Nat → Nat → Int32} (h : ff f) : mf f := fun a i q => h a i (by omega)
theorem mf_fr {f f' : Nat → Nat → Int32} (h : mf f) (h' : fr f f') : mf f' := fun a i q => (h' a i (Or.inr q)).trans (h a i q)
theorem fr_e {f f' : Nat → Nat → Int32} (h' : fr f f') : ∀ k, f' 0 k = f 0 k := fun k => h' 0 k (Or.inl (by decide))
theorem ff_z {f : Nat → Nat → Int32} (h : ff f) : z0 f := ⟨h 6 13 (by decide), h 100 6 (by decide), h 107 3 (by decide), h 119 7 (by decide), h 129 6 (by decide), h 139 13 (by decide), h 168 7 (by decide)⟩
theorem mf_z {f : Nat → Nat → Int32} (h : mf f) : mz f := ⟨h 181 0 (by decide), h 181 14 (by decide), h 181 16 (by decide), h 181 27 (by decide), h 181 46 (by decide), h 181 48 (by decide), h 181 50 (by decide)⟩
theorem inix_0 {a : Nat} (i : Nat) (h : ¬ (109 ≤ a ∧ a ≤ 112) ∧ a ≠ 169 ∧ a ≠ 180 ∧ a ≠ 224 ∧ a ≠ 213 ∧ a ≠ 214 ∧ a ≠ 215) : inix a i = 0 := by
  unfold inix
  repeat rw [if_neg (by omega)]
theorem ff_kin {f : Nat → Nat → Int32} (h : ff f) : ∀ i, f 120 i = 0 := fun i => by rw [h 120 i (by decide), if_pos (by decide), inix_0 i (by decide)]
theorem ff_len {f : Nat → Nat → Int32} (h : ff f) : ∀ i, i < 4 → f 180 i = -1 := fun i hi => by
  rw [h 180 i (by decide), if_pos (by decide)]
  unfold inix
  rw [if_neg (by omega), if_neg (by omega), if_pos ⟨rfl, hi⟩]
theorem ff_rul {f : Nat → Nat → Int32} (h : ff f) : ∀ a i, 109 ≤ a → a ≤ 112 → i < 3 → f a i = if i = 1 then 2 else 3 := fun a i h1 h2 hi => by
  rw [h a i (by omega), if_pos (by omega)]
  unfold inix
  rw [if_pos ⟨h1, h2⟩]
  match i, hi with
  | 0, _ => rfl
  | 1, _ => rfl
  | 2, _ => rfl
theorem mf_29 {f : Nat → Nat → Int32} (h : mf f) : f 181 29 = 0 := h 181 29 (by decide)
theorem mf_sum {f : Nat → Nat → Int32} (h : mf f) : ∀ i, f 206 i = 0 := fun i => by rw [h 206 i (by decide), if_pos (by decide), inix_0 i (by decide)]
theorem mf_kin {f : Nat → Nat → Int32} (h : mf f) : ∀ i, f 212 i = 0 := fun i => by rw [h 212 i (by decide), if_pos (by decide), inix_0 i (by decide)]
theorem mf_lan {f : Nat → Nat → Int32} (h : mf f) : ∀ i, i < 4 → f 224 i = -1 := fun i hi => by
  rw [h 224 i (by decide), if_pos (by decide)]
  unfold inix
  rw [if_neg (by omega), if_neg (by omega), if_neg (by omega), if_pos ⟨rfl, hi⟩]
theorem mf_rul {f : Nat → Nat → Int32} (h : mf f) : f 213 0 = 3 ∧ f 213 1 = 0 ∧ f 213 2 = 0 ∧ f 213 3 = 0 ∧ f 214 0 = 2 ∧ f 215 0 = 3 := ⟨h 213 0 (by decide), h 213 1 (by decide), h 213 2 (by decide), h 213 3 (by decide), h 214 0 (by decide), h 215 0 (by decide)⟩
abbrev lawK (d L : Nat) : Nat → mL → List Value → mH → Prop := fun i ls st h9 => WPe pg_L_law (some (lawB L)) (Run mtab d) lawQ (m_drop pg_L_law i) ls st h9
theorem at_law {d L i : Nat} {ls : mL} {st : List Value} {h : mH} (H : m_sym pg_L_law (some (lawB L)) (Run mtab d) lawQ (lawK d L) 1000 (m_drop pg_L_law i) ls st h) : WPe pg_L_law (some (lawB L)) (Run mtab d) lawQ (m_drop pg_L_law i) ls st h := by
  have hix : m_ixd pg_L_law := fun i e0 h0 => (m_fits_of law_lay i e0 h0).1
  exact m_sym_ok (Run_mono mtab d) hix 1000 _ _ _ _ ⟨i, rfl⟩ H
set_option maxRecDepth 100000 in
theorem law_done {d : Nat} {f : Nat → Nat → Int32} {g : Nat → Nat → Int64} {x : Int32} (hx : x = 10) : WPe pg_L_law (some (lawB 10)) (Run mtab d) lawQ (m_drop pg_L_law 10) [some (.ref 0), some (.ref 5), some (.ref 181), some (.int x)] [] (shF 10, f, g) := by
  subst hx
  refine at_law ?_
  conv => whnf
  refine ⟨fun _ => ?_, fun c => absurd (by decide) c⟩
  conv => whnf
  refine ⟨Or.inr rfl, ⟨rfl, rfl⟩, rfl⟩
set_option maxRecDepth 100000 in
set_option maxHeartbeats 4000000 in
theorem lw_0 {d : Nat} {f : Nat → Nat → Int32} {g : Nat → Nat → Int64} (hd : 6 ≤ d) (hf : ff f) : m_nxt (lawK d 10) (m_sym pg_L_law (some (lawB 10)) (Run mtab d) lawQ (lawK d 10) 988) (m_drop pg_L_law 22) [some (.ref 0), some (.ref 5), some (.ref 181), some (.int 0)] [] (shF 10, f, g) := by
  conv => whnf
  repeat' first
    | (simp only [fr_e h1])
    | exact law_done rfl
    | (refine ⟨by unfold vp_in; decide, ?_⟩ <;> conv => whnf)
    | (refine ⟨⟨Nat.le_of_ble_eq_true rfl, Nat.le_of_ble_eq_true rfl⟩, x_work (by omega) (ff_z hf) (fun v1 f1 g1 hv1 h1 => ?_)⟩ <;> conv => whnf)
    | (refine ⟨⟨Nat.le_of_ble_eq_true rfl, Nat.le_of_ble_eq_true rfl⟩, m_work (by omega) (mf_z (mf_fr (ff_m hf) h1)) (fun v2 f2 g2 hv2 => ?_)⟩ <;> conv => whnf)
    | (refine ⟨fun c => ?_, fun c => ?_⟩ <;> first | exact absurd c (by decide) | exact absurd (by decide) c | exact absurd (v2_eq hv1 hv2) c | (conv => whnf))
    | fail
set_option maxRecDepth 100000 in
set_option maxHeartbeats 4000000 in
theorem lw_1 {d : Nat} {f : Nat → Nat → Int32} {g : Nat → Nat → Int64} (hd : 6 ≤ d) (hf : ff f) : m_nxt (lawK d 10) (m_sym pg_L_law (some (lawB 10)) (Run mtab d) lawQ (lawK d 10) 988) (m_drop pg_L_law 89) [some (.ref 0), some (.ref 5), some (.ref 181), some (.int 0)] [] (shF 10, f, g) := by
  conv => whnf
  repeat' first
    | exact law_done rfl
    | (refine ⟨by unfold vp_in; decide, ?_⟩ <;> conv => whnf)
    | (refine ⟨⟨Nat.le_of_ble_eq_true rfl, Nat.le_of_ble_eq_true rfl⟩, x_version (by omega) (ff_z hf) ?_⟩ <;> conv => whnf)
    | (refine ⟨⟨Nat.le_of_ble_eq_true rfl, Nat.le_of_ble_eq_true rfl⟩, m_version (by omega) (mf_z (ff_m hf)) ?_⟩ <;> conv => whnf)
    | (refine ⟨fun c => ?_, fun c => ?_⟩ <;> first | exact absurd c (by decide) | exact absurd (by decide) c | (conv => whnf))
    | fail
set_option maxRecDepth 100000 in
set_option maxHeartbeats 4000000 in
theorem lw_2 {d : Nat} {f : Nat → Nat → Int32} {g : Nat → Nat → Int64} (hd : 6 ≤ d) (hf : ff f) : m_nxt (lawK d 10) (m_sym pg_L_law (some (lawB 10)) (Run mtab d) lawQ (lawK d 10) 988) (m_drop pg_L_law 156) [some (.ref 0), some (.ref 5), some (.ref 181), some (.int 0)] [] (shF 10, f, g) := by
  conv => whnf
  repeat' first
    | exact law_done rfl
    | (refine ⟨by unfold vp_in; decide, ?_⟩ <;> conv => whnf)
    | (refine ⟨⟨Nat.le_of_ble_eq_true rfl, Nat.le_of_ble_eq_true rfl⟩, x_print (by omega) (ff_z hf) ?_⟩ <;> conv => whnf)
    | (refine ⟨⟨Nat.le_of_ble_eq_true rfl, Nat.le_of_ble_eq_true rfl⟩, m_print (by omega) (mf_z (ff_m hf)) ?_⟩ <;> conv => whnf)
    | (refine ⟨fun c => ?_, fun c => ?_⟩ <;> first | exact absurd c (by decide) | exact absurd (by decide) c | (conv => whnf))
    | fail
set_option maxRecDepth 100000 in
set_option maxHeartbeats 4000000 in
theorem lw_3 {d : Nat} {f : Nat → Nat → Int32} {g : Nat → Nat → Int64} (hd : 6 ≤ d) (hf : ff f) : m_nxt (lawK d 10) (m_sym pg_L_law (some (lawB 10)) (Run mtab d) lawQ (lawK d 10) 988) (m_drop pg_L_law 241) [some (.ref 0), some (.ref 5), some (.ref 181), some (.int 0)] [] (shF 10, f, g) := by
  conv => whnf
  repeat' first
    | exact law_done rfl
    | (refine ⟨by unfold vp_in; decide, ?_⟩ <;> conv => whnf)
    | (refine ⟨⟨Nat.le_of_ble_eq_true rfl, Nat.le_of_ble_eq_true rfl⟩, x_retitle (by omega) (ff_z hf) ?_⟩ <;> conv => whnf)
    | (refine ⟨⟨Nat.le_of_ble_eq_true rfl, Nat.le_of_ble_eq_true rfl⟩, m_retitle (by omega) (mf_z (ff_m hf)) ?_⟩ <;> conv => whnf)
    | (refine ⟨fun c => ?_, fun c => ?_⟩ <;> first | exact absurd c (by decide) | exact absurd (by decide) c | (conv => whnf))
    | fail
set_option maxRecDepth 100000 in
set_option maxHeartbeats 4000000 in
theorem lw_4 {d : Nat} {f : Nat → Nat → Int32} {g : Nat → Nat → Int64} (hd : 6 ≤ d) (hf : ff f) : m_nxt (lawK d 10) (m_sym pg_L_law (some (lawB 10)) (Run mtab d) lawQ (lawK d 10) 988) (m_drop pg_L_law 278) [some (.ref 0), some (.ref 5), some (.ref 181), some (.int 0)] [] (shF 10, f, g) := by
  conv => whnf
  repeat' first
    | exact law_done rfl
    | (refine ⟨by unfold vp_in; decide, ?_⟩ <;> conv => whnf)
    | (refine ⟨⟨Nat.le_of_ble_eq_true rfl, Nat.le_of_ble_eq_true rfl⟩, x_cut (by omega) (ff_z hf) ?_⟩ <;> conv => whnf)
    | (refine ⟨⟨Nat.le_of_ble_eq_true rfl, Nat.le_of_ble_eq_true rfl⟩, m_cut (by omega) (mf_z (ff_m hf)) ?_⟩ <;> conv => whnf)
    | (refine ⟨fun c => ?_, fun c => ?_⟩ <;> first | exact absurd c (by decide) | exact absurd (by decide) c | (conv => whnf))
    | fail
set_option maxRecDepth 100000 in
set_option maxHeartbeats 4000000 in
theorem lw_5 {d : Nat} {f : Nat → Nat → Int32} {g : Nat → Nat → Int64} (hd : 6 ≤ d) (hf : ff f) : m_nxt (lawK d 10) (m_sym pg_L_law (some (lawB 10)) (Run mtab d) lawQ (lawK d 10) 988) (m_drop pg_L_law 325) [some (.ref 0), some (.ref 5), some (.ref 181), some (.int 0)] [] (shF 10, f, g) := by
  conv => whnf
  repeat' first
    | exact law_done rfl
    | (refine ⟨by unfold vp_in; decide, ?_⟩ <;> conv => whnf)
    | (refine ⟨⟨Nat.le_of_ble_eq_true rfl, Nat.le_of_ble_eq_true rfl⟩, x_told (by omega) (ff_z hf) ?_⟩ <;> conv => whnf)
    | (refine ⟨⟨Nat.le_of_ble_eq_true rfl, Nat.le_of_ble_eq_true rfl⟩, m_told (by omega) (mf_z (ff_m hf)) ?_⟩ <;> conv => whnf)
    | (refine ⟨fun c => ?_, fun c => ?_⟩ <;> first | exact absurd c (by decide) | exact absurd (by decide) c | (conv => whnf))
    | fail
set_option maxRecDepth 100000 in
set_option maxHeartbeats 4000000 in
theorem lw_6 {d : Nat} {f : Nat → Nat → Int32} {g : Nat → Nat → Int64} (hd : 6 ≤ d) (hf : ff f) : m_nxt (lawK d 10) (m_sym pg_L_law (some (lawB 10)) (Run mtab d) lawQ (lawK d 10) 988) (m_drop pg_L_law 352) [some (.ref 0), some (.ref 5), some (.ref 181), some (.int 0)] [] (shF 10, f, g) := by
  conv => whnf
  repeat' first
    | exact law_done rfl
    | (refine ⟨by unfold vp_in; decide, ?_⟩ <;> conv => whnf)
    | (refine ⟨⟨Nat.le_of_ble_eq_true rfl, Nat.le_of_ble_eq_true rfl⟩, x_then (by omega) (ff_z hf) ?_⟩ <;> conv => whnf)
    | (refine ⟨⟨Nat.le_of_ble_eq_true rfl, Nat.le_of_ble_eq_true rfl⟩, m_then (by omega) (mf_z (ff_m hf)) ?_⟩ <;> conv => whnf)
    | (refine ⟨fun c => ?_, fun c => ?_⟩ <;> first | exact absurd c (by decide) | exact absurd (by decide) c | (conv => whnf))
    | fail
set_option maxRecDepth 100000 in
set_option maxHeartbeats 4000000 in
theorem lw_7 {d : Nat} {f : Nat → Nat → Int32} {g : Nat → Nat → Int64} (hd : 6 ≤ d) (hf : ff f) : m_nxt (lawK d 10) (m_sym pg_L_law (some (lawB 10)) (Run mtab d) lawQ (lawK d 10) 988) (m_drop pg_L_law 389) [some (.ref 0), some (.ref 5), some (.ref 181), some (.int 0)] [] (shF 10, f, g) := by
  conv => whnf
  repeat' first
    | exact law_done rfl
    | (refine ⟨by unfold vp_in; decide, ?_⟩ <;> conv => whnf)
    | (refine ⟨⟨Nat.le_of_ble_eq_true rfl, Nat.le_of_ble_eq_true rfl⟩, x_turned (by omega) (ff_z hf) ?_⟩ <;> conv => whnf)
    | (refine ⟨⟨Nat.le_of_ble_eq_true rfl, Nat.le_of_ble_eq_true rfl⟩, m_turned (by omega) (mf_z (ff_m hf)) ?_⟩ <;> conv => whnf)
    | (refine ⟨fun c => ?_, fun c => ?_⟩ <;> first | exact absurd c (by decide) | exact absurd (by decide) c | (conv => whnf))
    | fail
set_option maxRecDepth 100000 in
set_option maxHeartbeats 4000000 in
theorem lw_8 {d : Nat} {f : Nat → Nat → Int32} {g : Nat → Nat → Int64} (hd : 6 ≤ d) (hf : ff f) : m_nxt (lawK d 10) (m_sym pg_L_law (some (lawB 10)) (Run mtab d) lawQ (lawK d 10) 988) (m_drop pg_L_law 406) [some (.ref 0), some (.ref 5), some (.ref 181), some (.int 0)] [] (shF 10, f, g) := by
  conv => whnf
  repeat' first
    | exact law_done rfl
    | (refine ⟨by unfold vp_in; decide, ?_⟩ <;> conv => whnf)
    | (refine ⟨⟨Nat.le_of_ble_eq_true rfl, Nat.le_of_ble_eq_true rfl⟩, x_holding (by omega) (ff_z hf) ?_⟩ <;> conv => whnf)
    | (refine ⟨⟨Nat.le_of_ble_eq_true rfl, Nat.le_of_ble_eq_true rfl⟩, m_holding (by omega) (mf_z (ff_m hf)) ?_⟩ <;> conv => whnf)
    | (refine ⟨fun c => ?_, fun c => ?_⟩ <;> first | exact absurd c (by decide) | exact absurd (by decide) c | (conv => whnf))
    | fail
set_option maxRecDepth 100000 in
set_option maxHeartbeats 4000000 in
theorem lw_9 {d : Nat} {f : Nat → Nat → Int32} {g : Nat → Nat → Int64} (hd : 6 ≤ d) (hf : ff f) : m_nxt (lawK d 10) (m_sym pg_L_law (some (lawB 10)) (Run mtab d) lawQ (lawK d 10) 988) (m_drop pg_L_law 473) [some (.ref 0), some (.ref 5), some (.ref 181), some (.int 0)] [] (shF 10, f, g) := by
  conv => whnf
  repeat' first
    | exact law_done rfl
    | (refine ⟨by unfold vp_in; decide, ?_⟩ <;> conv => whnf)
    | (refine ⟨⟨Nat.le_of_ble_eq_true rfl, Nat.le_of_ble_eq_true rfl⟩, x_unhold (by omega) (ff_z hf) ?_⟩ <;> conv => whnf)
    | (refine ⟨⟨Nat.le_of_ble_eq_true rfl, Nat.le_of_ble_eq_true rfl⟩, m_unhold (by omega) (mf_z (ff_m hf)) (fun f2 g2 => ?_)⟩ <;> conv => whnf)
    | (refine ⟨fun c => ?_, fun c => ?_⟩ <;> first | exact absurd c (by decide) | exact absurd (by decide) c | (conv => whnf))
    | fail
set_option maxRecDepth 100000 in
set_option maxHeartbeats 4000000 in
theorem lw_10 {d : Nat} {f : Nat → Nat → Int32} {g : Nat → Nat → Int64} (hd : 6 ≤ d) (hf : ff f) : m_nxt (lawK d 10) (m_sym pg_L_law (some (lawB 10)) (Run mtab d) lawQ (lawK d 10) 988) (m_drop pg_L_law 480) [some (.ref 0), some (.ref 5), some (.ref 181), some (.int 0)] [] (shF 10, f, g) := by
  conv => whnf
  repeat' first
    | exact law_done rfl
    | (refine ⟨by unfold vp_in; decide, ?_⟩ <;> conv => whnf)
    | (refine ⟨⟨Nat.le_of_ble_eq_true rfl, Nat.le_of_ble_eq_true rfl⟩, x_owner (by omega) (ff_z hf) ?_⟩ <;> conv => whnf)
    | (refine ⟨⟨Nat.le_of_ble_eq_true rfl, Nat.le_of_ble_eq_true rfl⟩, m_owner (by omega) (mf_z (ff_m hf)) ?_⟩ <;> conv => whnf)
    | (refine ⟨fun c => ?_, fun c => ?_⟩ <;> first | exact absurd c (by decide) | exact absurd (by decide) c | (conv => whnf))
    | fail
set_option maxRecDepth 100000 in
set_option maxHeartbeats 4000000 in
theorem lw_11 {d : Nat} {f : Nat → Nat → Int32} {g : Nat → Nat → Int64} (hd : 6 ≤ d) (hf : ff f) : m_nxt (lawK d 10) (m_sym pg_L_law (some (lawB 10)) (Run mtab d) lawQ (lawK d 10) 988) (m_drop pg_L_law 507) [some (.ref 0), some (.ref 5), some (.ref 181), some (.int 0)] [] (shF 10, f, g) := by
  conv => whnf
  repeat' first
    | exact law_done rfl
    | (refine ⟨by unfold vp_in; decide, ?_⟩ <;> conv => whnf)
    | (refine ⟨⟨Nat.le_of_ble_eq_true rfl, Nat.le_of_ble_eq_true rfl⟩, x_may (by omega) (ff_z hf) ?_⟩ <;> conv => whnf)
    | (refine ⟨⟨Nat.le_of_ble_eq_true rfl, Nat.le_of_ble_eq_true rfl⟩, m_may (by omega) (mf_z (ff_m hf)) ?_⟩ <;> conv => whnf)
    | (refine ⟨fun c => ?_, fun c => ?_⟩ <;> first | exact absurd c (by decide) | exact absurd (by decide) c | (conv => whnf))
    | fail
set_option maxRecDepth 100000 in
set_option maxHeartbeats 4000000 in
theorem lw_12 {d : Nat} {f : Nat → Nat → Int32} {g : Nat → Nat → Int64} (hd : 6 ≤ d) (hf : ff f) : m_nxt (lawK d 10) (m_sym pg_L_law (some (lawB 10)) (Run mtab d) lawQ (lawK d 10) 988) (m_drop pg_L_law 534) [some (.ref 0), some (.ref 5), some (.ref 181), some (.int 0)] [] (shF 10, f, g) := by
  conv => whnf
  repeat' first
    | exact law_done rfl
    | (refine ⟨by unfold vp_in; decide, ?_⟩ <;> conv => whnf)
    | (refine ⟨⟨Nat.le_of_ble_eq_true rfl, Nat.le_of_ble_eq_true rfl⟩, x_twice (by omega) (ff_z hf) ?_⟩ <;> conv => whnf)
    | (refine ⟨⟨Nat.le_of_ble_eq_true rfl, Nat.le_of_ble_eq_true rfl⟩, m_twice (by omega) (mf_z (ff_m hf)) ?_⟩ <;> conv => whnf)
    | (refine ⟨fun c => ?_, fun c => ?_⟩ <;> first | exact absurd c (by decide) | exact absurd (by decide) c | (conv => whnf))
    | fail
set_option maxRecDepth 100000 in
set_option maxHeartbeats 4000000 in
theorem lw_13 {d : Nat} {f : Nat → Nat → Int32} {g : Nat → Nat → Int64} (hd : 6 ≤ d) (hf : ff f) : m_nxt (lawK d 10) (m_sym pg_L_law (some (lawB 10)) (Run mtab d) lawQ (lawK d 10) 988) (m_drop pg_L_law 551) [some (.ref 0), some (.ref 5), some (.ref 181), some (.int 0)] [] (shF 10, f, g) := by
  conv => whnf
  repeat' first
    | exact law_done rfl
    | (refine ⟨by unfold vp_in; decide, ?_⟩ <;> conv => whnf)
    | (refine ⟨⟨Nat.le_of_ble_eq_true rfl, Nat.le_of_ble_eq_true rfl⟩, x_gap (by omega) (ff_z hf) ?_⟩ <;> conv => whnf)
    | (refine ⟨⟨Nat.le_of_ble_eq_true rfl, Nat.le_of_ble_eq_true rfl⟩, m_gap (by omega) (mf_z (ff_m hf)) ?_⟩ <;> conv => whnf)
    | (refine ⟨fun c => ?_, fun c => ?_⟩ <;> first | exact absurd c (by decide) | exact absurd (by decide) c | (conv => whnf))
    | fail
set_option maxRecDepth 100000 in
set_option maxHeartbeats 4000000 in
theorem lw_14 {d : Nat} {f : Nat → Nat → Int32} {g : Nat → Nat → Int64} (hd : 6 ≤ d) (hf : ff f) : m_nxt (lawK d 10) (m_sym pg_L_law (some (lawB 10)) (Run mtab d) lawQ (lawK d 10) 988) (m_drop pg_L_law 578) [some (.ref 0), some (.ref 5), some (.ref 181), some (.int 0)] [] (shF 10, f, g) := by
  conv => whnf
  repeat' first
    | (simp only [fr_e h1])
    | exact law_done rfl
    | (refine ⟨by unfold vp_in; decide, ?_⟩ <;> conv => whnf)
    | (refine ⟨⟨Nat.le_of_ble_eq_true rfl, Nat.le_of_ble_eq_true rfl⟩, x_mention (by omega) (ff_z hf) (fun v1 f1 g1 hv1 h1 => ?_)⟩ <;> conv => whnf)
    | (refine ⟨⟨Nat.le_of_ble_eq_true rfl, Nat.le_of_ble_eq_true rfl⟩, m_mention (by omega) (mf_z (mf_fr (ff_m hf) h1)) (fun v2 f2 g2 hv2 => ?_)⟩ <;> conv => whnf)
    | (refine ⟨fun c => ?_, fun c => ?_⟩ <;> first | exact absurd c (by decide) | exact absurd (by decide) c | exact absurd (v2_eq hv1 hv2) c | (conv => whnf))
    | fail
set_option maxRecDepth 100000 in
set_option maxHeartbeats 4000000 in
theorem lw_15 {d : Nat} {f : Nat → Nat → Int32} {g : Nat → Nat → Int64} (hd : 6 ≤ d) (hf : ff f) : m_nxt (lawK d 10) (m_sym pg_L_law (some (lawB 10)) (Run mtab d) lawQ (lawK d 10) 988) (m_drop pg_L_law 683) [some (.ref 0), some (.ref 5), some (.ref 181), some (.int 0)] [] (shF 10, f, g) := by
  conv => whnf
  repeat' first
    | exact law_done rfl
    | (refine ⟨by unfold vp_in; decide, ?_⟩ <;> conv => whnf)
    | (refine ⟨⟨Nat.le_of_ble_eq_true rfl, Nat.le_of_ble_eq_true rfl⟩, x_score (by omega) (ff_z hf) ?_⟩ <;> conv => whnf)
    | (refine ⟨⟨Nat.le_of_ble_eq_true rfl, Nat.le_of_ble_eq_true rfl⟩, m_score (by omega) (mf_z (ff_m hf)) ?_⟩ <;> conv => whnf)
    | (refine ⟨fun c => ?_, fun c => ?_⟩ <;> first | exact absurd c (by decide) | exact absurd (by decide) c | (conv => whnf))
    | fail
set_option maxRecDepth 100000 in
set_option maxHeartbeats 4000000 in
theorem lw_16 {d : Nat} {f : Nat → Nat → Int32} {g : Nat → Nat → Int64} (hd : 6 ≤ d) (hf : ff f) : m_nxt (lawK d 10) (m_sym pg_L_law (some (lawB 10)) (Run mtab d) lawQ (lawK d 10) 988) (m_drop pg_L_law 710) [some (.ref 0), some (.ref 5), some (.ref 181), some (.int 0)] [] (shF 10, f, g) := by
  conv => whnf
  repeat' first
    | exact law_done rfl
    | (refine ⟨by unfold vp_in; decide, ?_⟩ <;> conv => whnf)
    | (refine ⟨⟨Nat.le_of_ble_eq_true rfl, Nat.le_of_ble_eq_true rfl⟩, x_rivals (by omega) (ff_z hf) ?_⟩ <;> conv => whnf)
    | (refine ⟨⟨Nat.le_of_ble_eq_true rfl, Nat.le_of_ble_eq_true rfl⟩, m_rivals (by omega) (mf_z (ff_m hf)) ?_⟩ <;> conv => whnf)
    | (refine ⟨fun c => ?_, fun c => ?_⟩ <;> first | exact absurd c (by decide) | exact absurd (by decide) c | (conv => whnf))
    | fail
set_option maxRecDepth 100000 in
set_option maxHeartbeats 4000000 in
theorem lw_17 {d : Nat} {f : Nat → Nat → Int32} {g : Nat → Nat → Int64} (hd : 6 ≤ d) (hf : ff f) : m_nxt (lawK d 10) (m_sym pg_L_law (some (lawB 10)) (Run mtab d) lawQ (lawK d 10) 988) (m_drop pg_L_law 727) [some (.ref 0), some (.ref 5), some (.ref 181), some (.int 0)] [] (shF 10, f, g) := by
  conv => whnf
  repeat' first
    | exact law_done rfl
    | (refine ⟨by unfold vp_in; decide, ?_⟩ <;> conv => whnf)
    | (refine ⟨⟨Nat.le_of_ble_eq_true rfl, Nat.le_of_ble_eq_true rfl⟩, x_joined (by omega) (ff_z hf) ?_⟩ <;> conv => whnf)
    | (refine ⟨⟨Nat.le_of_ble_eq_true rfl, Nat.le_of_ble_eq_true rfl⟩, m_joined (by omega) (mf_z (ff_m hf)) ?_⟩ <;> conv => whnf)
    | (refine ⟨fun c => ?_, fun c => ?_⟩ <;> first | exact absurd c (by decide) | exact absurd (by decide) c | (conv => whnf))
    | fail
set_option maxRecDepth 100000 in
set_option maxHeartbeats 4000000 in
theorem lw_18 {d : Nat} {f : Nat → Nat → Int32} {g : Nat → Nat → Int64} (hd : 6 ≤ d) (hf : ff f) : m_nxt (lawK d 10) (m_sym pg_L_law (some (lawB 10)) (Run mtab d) lawQ (lawK d 10) 988) (m_drop pg_L_law 744) [some (.ref 0), some (.ref 5), some (.ref 181), some (.int 0)] [] (shF 10, f, g) := by
  conv => whnf
  repeat' first
    | exact law_done rfl
    | (refine ⟨by unfold vp_in; decide, ?_⟩ <;> conv => whnf)
    | (refine ⟨⟨Nat.le_of_ble_eq_true rfl, Nat.le_of_ble_eq_true rfl⟩, x_sure (by omega) (ff_z hf) ?_⟩ <;> conv => whnf)
    | (refine ⟨⟨Nat.le_of_ble_eq_true rfl, Nat.le_of_ble_eq_true rfl⟩, m_sure (by omega) (mf_z (ff_m hf)) ?_⟩ <;> conv => whnf)
    | (refine ⟨fun c => ?_, fun c => ?_⟩ <;> first | exact absurd c (by decide) | exact absurd (by decide) c | (conv => whnf))
    | fail
set_option maxRecDepth 100000 in
set_option maxHeartbeats 4000000 in
theorem lw_19 {d : Nat} {f : Nat → Nat → Int32} {g : Nat → Nat → Int64} (hd : 6 ≤ d) (hf : ff f) : m_nxt (lawK d 10) (m_sym pg_L_law (some (lawB 10)) (Run mtab d) lawQ (lawK d 10) 988) (m_drop pg_L_law 761) [some (.ref 0), some (.ref 5), some (.ref 181), some (.int 0)] [] (shF 10, f, g) := by
  conv => whnf
  repeat' first
    | (simp only [fr_e h1])
    | exact law_done rfl
    | (refine ⟨by unfold vp_in; decide, ?_⟩ <;> conv => whnf)
    | (refine ⟨⟨Nat.le_of_ble_eq_true rfl, Nat.le_of_ble_eq_true rfl⟩, x_sum (by omega) (ff_z hf) (fun v1 f1 g1 hv1 h1 => ?_)⟩ <;> conv => whnf)
    | (refine ⟨⟨Nat.le_of_ble_eq_true rfl, Nat.le_of_ble_eq_true rfl⟩, m_sum (by omega) (mf_z (mf_fr (ff_m hf) h1)) (mf_29 (mf_fr (ff_m hf) h1)) (mf_sum (mf_fr (ff_m hf) h1)) (fun v2 f2 g2 hv2 => ?_)⟩ <;> conv => whnf)
    | (refine ⟨fun c => ?_, fun c => ?_⟩ <;> first | exact absurd c (by decide) | exact absurd (by decide) c | exact absurd (v2_eq hv1 hv2) c | (conv => whnf))
    | fail
set_option maxRecDepth 100000 in
set_option maxHeartbeats 4000000 in
theorem lw_20 {d : Nat} {f : Nat → Nat → Int32} {g : Nat → Nat → Int64} (hd : 6 ≤ d) (hf : ff f) : m_nxt (lawK d 10) (m_sym pg_L_law (some (lawB 10)) (Run mtab d) lawQ (lawK d 10) 988) (m_drop pg_L_law 778) [some (.ref 0), some (.ref 5), some (.ref 181), some (.int 0)] [] (shF 10, f, g) := by
  conv => whnf
  repeat' first
    | (simp only [fr_e h1])
    | exact law_done rfl
    | (refine ⟨by unfold vp_in; decide, ?_⟩ <;> conv => whnf)
    | (refine ⟨⟨Nat.le_of_ble_eq_true rfl, Nat.le_of_ble_eq_true rfl⟩, x_mentions (by omega) (ff_z hf) (fun v1 f1 g1 hv1 h1 => ?_)⟩ <;> conv => whnf)
    | (refine ⟨⟨Nat.le_of_ble_eq_true rfl, Nat.le_of_ble_eq_true rfl⟩, m_mentions (by omega) (mf_z (mf_fr (ff_m hf) h1)) (mf_29 (mf_fr (ff_m hf) h1)) (mf_sum (mf_fr (ff_m hf) h1)) (fun v2 f2 g2 hv2 => ?_)⟩ <;> conv => whnf)
    | (refine ⟨fun c => ?_, fun c => ?_⟩ <;> first | exact absurd c (by decide) | exact absurd (by decide) c | exact absurd (v2_eq hv1 hv2) c | (conv => whnf))
    | fail
set_option maxRecDepth 100000 in
set_option maxHeartbeats 4000000 in
theorem lw_21 {d : Nat} {f : Nat → Nat → Int32} {g : Nat → Nat → Int64} (hd : 6 ≤ d) (hf : ff f) : m_nxt (lawK d 10) (m_sym pg_L_law (some (lawB 10)) (Run mtab d) lawQ (lawK d 10) 988) (m_drop pg_L_law 795) [some (.ref 0), some (.ref 5), some (.ref 181), some (.int 0)] [] (shF 10, f, g) := by
  conv => whnf
  repeat' first
    | (simp only [fr_e h1])
    | exact law_done rfl
    | (refine ⟨by unfold vp_in; decide, ?_⟩ <;> conv => whnf)
    | (refine ⟨⟨Nat.le_of_ble_eq_true rfl, Nat.le_of_ble_eq_true rfl⟩, x_counted (by omega) (ff_z hf) (fun v1 f1 g1 hv1 h1 => ?_)⟩ <;> conv => whnf)
    | (refine ⟨⟨Nat.le_of_ble_eq_true rfl, Nat.le_of_ble_eq_true rfl⟩, m_counted (by omega) (mf_z (mf_fr (ff_m hf) h1)) (mf_29 (mf_fr (ff_m hf) h1)) (mf_sum (mf_fr (ff_m hf) h1)) (fun v2 f2 g2 hv2 => ?_)⟩ <;> conv => whnf)
    | (refine ⟨fun c => ?_, fun c => ?_⟩ <;> first | exact absurd c (by decide) | exact absurd (by decide) c | exact absurd (v3_eq hv1 hv2) c | (conv => whnf))
    | fail
set_option maxRecDepth 100000 in
set_option maxHeartbeats 4000000 in
theorem lw_22 {d : Nat} {f : Nat → Nat → Int32} {g : Nat → Nat → Int64} (hd : 6 ≤ d) (hf : ff f) : m_nxt (lawK d 10) (m_sym pg_L_law (some (lawB 10)) (Run mtab d) lawQ (lawK d 10) 988) (m_drop pg_L_law 832) [some (.ref 0), some (.ref 5), some (.ref 181), some (.int 0)] [] (shF 10, f, g) := by
  conv => whnf
  repeat' first
    | exact law_done rfl
    | (refine ⟨by unfold vp_in; decide, ?_⟩ <;> conv => whnf)
    | (refine ⟨⟨Nat.le_of_ble_eq_true rfl, Nat.le_of_ble_eq_true rfl⟩, x_clue (by omega) (ff_z hf) ?_⟩ <;> conv => whnf)
    | (refine ⟨⟨Nat.le_of_ble_eq_true rfl, Nat.le_of_ble_eq_true rfl⟩, m_clue (by omega) (mf_z (ff_m hf)) ?_⟩ <;> conv => whnf)
    | (refine ⟨fun c => ?_, fun c => ?_⟩ <;> first | exact absurd c (by decide) | exact absurd (by decide) c | (conv => whnf))
    | fail
set_option maxRecDepth 100000 in
set_option maxHeartbeats 4000000 in
theorem lw_23 {d : Nat} {f : Nat → Nat → Int32} {g : Nat → Nat → Int64} (hd : 6 ≤ d) (hf : ff f) : m_nxt (lawK d 10) (m_sym pg_L_law (some (lawB 10)) (Run mtab d) lawQ (lawK d 10) 988) (m_drop pg_L_law 869) [some (.ref 0), some (.ref 5), some (.ref 181), some (.int 0)] [] (shF 10, f, g) := by
  conv => whnf
  repeat' first
    | exact law_done rfl
    | (refine ⟨by unfold vp_in; decide, ?_⟩ <;> conv => whnf)
    | (refine ⟨⟨Nat.le_of_ble_eq_true rfl, Nat.le_of_ble_eq_true rfl⟩, x_use (by omega) (ff_z hf) ?_⟩ <;> conv => whnf)
    | (refine ⟨⟨Nat.le_of_ble_eq_true rfl, Nat.le_of_ble_eq_true rfl⟩, m_use (by omega) (mf_z (ff_m hf)) ?_⟩ <;> conv => whnf)
    | (refine ⟨fun c => ?_, fun c => ?_⟩ <;> first | exact absurd c (by decide) | exact absurd (by decide) c | (conv => whnf))
    | fail
set_option maxRecDepth 100000 in
set_option maxHeartbeats 4000000 in
theorem lw_24 {d : Nat} {f : Nat → Nat → Int32} {g : Nat → Nat → Int64} (hd : 6 ≤ d) (hf : ff f) : m_nxt (lawK d 10) (m_sym pg_L_law (some (lawB 10)) (Run mtab d) lawQ (lawK d 10) 988) (m_drop pg_L_law 904) [some (.ref 0), some (.ref 5), some (.ref 181), some (.int 0)] [] (shF 10, f, g) := by
  conv => whnf
  repeat' first
    | exact law_done rfl
    | (refine ⟨by unfold vp_in; decide, ?_⟩ <;> conv => whnf)
    | (refine ⟨⟨Nat.le_of_ble_eq_true rfl, Nat.le_of_ble_eq_true rfl⟩, x_made (by omega) (ff_z hf) ?_⟩ <;> conv => whnf)
    | (refine ⟨⟨Nat.le_of_ble_eq_true rfl, Nat.le_of_ble_eq_true rfl⟩, m_made (by omega) (mf_z (ff_m hf)) ?_⟩ <;> conv => whnf)
    | (refine ⟨fun c => ?_, fun c => ?_⟩ <;> first | exact absurd c (by decide) | exact absurd (by decide) c | (conv => whnf))
    | fail
set_option maxRecDepth 100000 in
set_option maxHeartbeats 4000000 in
theorem lw_25 {d : Nat} {f : Nat → Nat → Int32} {g : Nat → Nat → Int64} (hd : 6 ≤ d) (hf : ff f) : m_nxt (lawK d 10) (m_sym pg_L_law (some (lawB 10)) (Run mtab d) lawQ (lawK d 10) 988) (m_drop pg_L_law 931) [some (.ref 0), some (.ref 5), some (.ref 181), some (.int 0)] [] (shF 10, f, g) := by
  conv => whnf
  repeat' first
    | (simp only [fr_e h1])
    | exact law_done rfl
    | (refine ⟨by unfold vp_in; decide, ?_⟩ <;> conv => whnf)
    | (refine ⟨⟨Nat.le_of_ble_eq_true rfl, Nat.le_of_ble_eq_true rfl⟩, x_quarrel (by omega) (ff_z hf) (fun f1 g1 h1 => ?_)⟩ <;> conv => whnf)
    | (refine ⟨⟨Nat.le_of_ble_eq_true rfl, Nat.le_of_ble_eq_true rfl⟩, m_quarrel (by omega) (mf_z (mf_fr (ff_m hf) h1)) (mf_29 (mf_fr (ff_m hf) h1)) (fun f2 g2 => ?_)⟩ <;> conv => whnf)
    | (refine ⟨fun c => ?_, fun c => ?_⟩ <;> first | exact absurd c (by decide) | exact absurd (by decide) c | (conv => whnf))
    | fail
set_option maxRecDepth 100000 in
set_option maxHeartbeats 4000000 in
theorem lw_26 {d : Nat} {f : Nat → Nat → Int32} {g : Nat → Nat → Int64} (hd : 6 ≤ d) (hf : ff f) : m_nxt (lawK d 10) (m_sym pg_L_law (some (lawB 10)) (Run mtab d) lawQ (lawK d 10) 988) (m_drop pg_L_law 938) [some (.ref 0), some (.ref 5), some (.ref 181), some (.int 0)] [] (shF 10, f, g) := by
  conv => whnf
  repeat' first
    | (simp only [fr_e h1])
    | exact law_done rfl
    | (refine ⟨by unfold vp_in; decide, ?_⟩ <;> conv => whnf)
    | (refine ⟨⟨Nat.le_of_ble_eq_true rfl, Nat.le_of_ble_eq_true rfl⟩, x_asides (by omega) (ff_z hf) (fun f1 g1 h1 => ?_)⟩ <;> conv => whnf)
    | (refine ⟨⟨Nat.le_of_ble_eq_true rfl, Nat.le_of_ble_eq_true rfl⟩, m_asides (by omega) (mf_z (mf_fr (ff_m hf) h1)) (mf_29 (mf_fr (ff_m hf) h1)) (fun f2 g2 => ?_)⟩ <;> conv => whnf)
    | (refine ⟨fun c => ?_, fun c => ?_⟩ <;> first | exact absurd c (by decide) | exact absurd (by decide) c | (conv => whnf))
    | fail
set_option maxRecDepth 100000 in
set_option maxHeartbeats 4000000 in
theorem lw_27 {d : Nat} {f : Nat → Nat → Int32} {g : Nat → Nat → Int64} (hd : 6 ≤ d) (hf : ff f) : m_nxt (lawK d 10) (m_sym pg_L_law (some (lawB 10)) (Run mtab d) lawQ (lawK d 10) 988) (m_drop pg_L_law 945) [some (.ref 0), some (.ref 5), some (.ref 181), some (.int 0)] [] (shF 10, f, g) := by
  conv => whnf
  repeat' first
    | (simp only [fr_e h1])
    | exact law_done rfl
    | (refine ⟨by unfold vp_in; decide, ?_⟩ <;> conv => whnf)
    | (refine ⟨⟨Nat.le_of_ble_eq_true rfl, Nat.le_of_ble_eq_true rfl⟩, x_aside (by omega) (ff_z hf) (fun f1 g1 h1 => ?_)⟩ <;> conv => whnf)
    | (refine ⟨⟨Nat.le_of_ble_eq_true rfl, Nat.le_of_ble_eq_true rfl⟩, m_aside (by omega) (mf_z (mf_fr (ff_m hf) h1)) (mf_29 (mf_fr (ff_m hf) h1)) (fun f2 g2 => ?_)⟩ <;> conv => whnf)
    | (refine ⟨fun c => ?_, fun c => ?_⟩ <;> first | exact absurd c (by decide) | exact absurd (by decide) c | (conv => whnf))
    | fail
set_option maxRecDepth 100000 in
set_option maxHeartbeats 4000000 in
theorem lw_28 {d : Nat} {f : Nat → Nat → Int32} {g : Nat → Nat → Int64} (hd : 6 ≤ d) (hf : ff f) : m_nxt (lawK d 10) (m_sym pg_L_law (some (lawB 10)) (Run mtab d) lawQ (lawK d 10) 988) (m_drop pg_L_law 962) [some (.ref 0), some (.ref 5), some (.ref 181), some (.int 0)] [] (shF 10, f, g) := by
  conv => whnf
  repeat' first
    | (simp only [fr_e h1])
    | exact law_done rfl
    | (refine ⟨by unfold vp_in; decide, ?_⟩ <;> conv => whnf)
    | (refine ⟨⟨Nat.le_of_ble_eq_true rfl, Nat.le_of_ble_eq_true rfl⟩, x_kin (by omega) (ff_z hf) (ff_kin hf) (fun v1 f1 g1 hv1 h1 => ?_)⟩ <;> conv => whnf)
    | (refine ⟨⟨Nat.le_of_ble_eq_true rfl, Nat.le_of_ble_eq_true rfl⟩, m_kin (by omega) (mf_z (mf_fr (ff_m hf) h1)) (mf_kin (mf_fr (ff_m hf) h1)) (fun v2 f2 g2 hv2 => ?_)⟩ <;> conv => whnf)
    | (refine ⟨fun c => ?_, fun c => ?_⟩ <;> first | exact absurd c (by decide) | exact absurd (by decide) c | exact absurd (v2_eq hv1 hv2) c | (conv => whnf))
    | fail
set_option maxRecDepth 100000 in
set_option maxHeartbeats 4000000 in
theorem lw_29 {d : Nat} {f : Nat → Nat → Int32} {g : Nat → Nat → Int64} (hd : 6 ≤ d) (hf : ff f) : m_nxt (lawK d 10) (m_sym pg_L_law (some (lawB 10)) (Run mtab d) lawQ (lawK d 10) 988) (m_drop pg_L_law 989) [some (.ref 0), some (.ref 5), some (.ref 181), some (.int 0)] [] (shF 10, f, g) := by
  conv => whnf
  repeat' first
    | (simp only [fr_e h1])
    | exact law_done rfl
    | (refine ⟨by unfold vp_in; decide, ?_⟩ <;> conv => whnf)
    | (refine ⟨⟨Nat.le_of_ble_eq_true rfl, Nat.le_of_ble_eq_true rfl⟩, x_type (by omega) (ff_z hf) (fun v1 f1 g1 hv1 h1 => ?_)⟩ <;> conv => whnf)
    | (refine ⟨⟨Nat.le_of_ble_eq_true rfl, Nat.le_of_ble_eq_true rfl⟩, m_type (by omega) (mf_z (mf_fr (ff_m hf) h1)) (fun v2 f2 g2 hv2 => ?_)⟩ <;> conv => whnf)
    | (refine ⟨fun c => ?_, fun c => ?_⟩ <;> first | exact absurd c (by decide) | exact absurd (by decide) c | exact absurd (v2_eq hv1 hv2) c | (conv => whnf))
    | fail
set_option maxRecDepth 100000 in
set_option maxHeartbeats 4000000 in
theorem lw_30 {d : Nat} {f : Nat → Nat → Int32} {g : Nat → Nat → Int64} (hd : 6 ≤ d) (hf : ff f) : m_nxt (lawK d 10) (m_sym pg_L_law (some (lawB 10)) (Run mtab d) lawQ (lawK d 10) 988) (m_drop pg_L_law 1040) [some (.ref 0), some (.ref 5), some (.ref 181), some (.int 0)] [] (shF 10, f, g) := by
  conv => whnf
  repeat' first
    | (simp only [fr_e h1])
    | exact law_done rfl
    | (refine ⟨by unfold vp_in; decide, ?_⟩ <;> conv => whnf)
    | (refine ⟨⟨Nat.le_of_ble_eq_true rfl, Nat.le_of_ble_eq_true rfl⟩, x_rules (by omega) (ff_z hf) (fun f1 g1 h1 => ?_)⟩ <;> conv => whnf)
    | (refine ⟨⟨Nat.le_of_ble_eq_true rfl, Nat.le_of_ble_eq_true rfl⟩, m_rules (by omega) (mf_z (mf_fr (ff_m hf) h1)) (fun f2 g2 => ?_)⟩ <;> conv => whnf)
    | (refine ⟨fun c => ?_, fun c => ?_⟩ <;> first | exact absurd c (by decide) | exact absurd (by decide) c | (conv => whnf))
    | fail
set_option maxRecDepth 100000 in
set_option maxHeartbeats 4000000 in
theorem lw_31 {d : Nat} {f : Nat → Nat → Int32} {g : Nat → Nat → Int64} (hd : 6 ≤ d) (hf : ff f) : m_nxt (lawK d 10) (m_sym pg_L_law (some (lawB 10)) (Run mtab d) lawQ (lawK d 10) 988) (m_drop pg_L_law 1047) [some (.ref 0), some (.ref 5), some (.ref 181), some (.int 0)] [] (shF 10, f, g) := by
  conv => whnf
  repeat' first
    | exact absurd p1 p2
    | exact absurd p2 p1
    | exact law_done rfl
    | (refine ⟨by unfold vp_in; decide, ?_⟩ <;> conv => whnf)
    | (refine ⟨⟨Nat.le_of_ble_eq_true rfl, Nat.le_of_ble_eq_true rfl⟩, x_rule (by omega) (ff_rul hf) (fun p1 v1 hv1 => ?_) (fun p1 => ?_)⟩ <;> conv => whnf)
    | (refine ⟨⟨Nat.le_of_ble_eq_true rfl, Nat.le_of_ble_eq_true rfl⟩, m_rule (by omega) (mf_rul (ff_m hf)) (fun p2 v2 hv2 => ?_) (fun p2 => ?_)⟩ <;> conv => whnf)
    | (refine ⟨fun c => ?_, fun c => ?_⟩ <;> first | exact absurd c (by decide) | exact absurd (by decide) c | exact absurd ((hv1.trans hv2.symm)) c | (conv => whnf))
    | fail
set_option maxRecDepth 100000 in
set_option maxHeartbeats 4000000 in
theorem lw_32 {d : Nat} {f : Nat → Nat → Int32} {g : Nat → Nat → Int64} (hd : 6 ≤ d) (hf : ff f) : m_nxt (lawK d 10) (m_sym pg_L_law (some (lawB 10)) (Run mtab d) lawQ (lawK d 10) 988) (m_drop pg_L_law 1074) [some (.ref 0), some (.ref 5), some (.ref 181), some (.int 0)] [] (shF 10, f, g) := by
  conv => whnf
  repeat' first
    | exact law_done rfl
    | (refine ⟨by unfold vp_in; decide, ?_⟩ <;> conv => whnf)
    | (refine ⟨⟨Nat.le_of_ble_eq_true rfl, Nat.le_of_ble_eq_true rfl⟩, x_vote (by omega) (ff_z hf) ?_⟩ <;> conv => whnf)
    | (refine ⟨⟨Nat.le_of_ble_eq_true rfl, Nat.le_of_ble_eq_true rfl⟩, m_vote (by omega) (mf_z (ff_m hf)) ?_⟩ <;> conv => whnf)
    | (refine ⟨fun c => ?_, fun c => ?_⟩ <;> first | exact absurd c (by decide) | exact absurd (by decide) c | (conv => whnf))
    | fail
set_option maxRecDepth 100000 in
set_option maxHeartbeats 4000000 in
theorem lw_33 {d : Nat} {f : Nat → Nat → Int32} {g : Nat → Nat → Int64} (hd : 6 ≤ d) (hf : ff f) : m_nxt (lawK d 10) (m_sym pg_L_law (some (lawB 10)) (Run mtab d) lawQ (lawK d 10) 988) (m_drop pg_L_law 1139) [some (.ref 0), some (.ref 5), some (.ref 181), some (.int 0)] [] (shF 10, f, g) := by
  conv => whnf
  repeat' first
    | exact law_done rfl
    | (refine ⟨by unfold vp_in; decide, ?_⟩ <;> conv => whnf)
    | (refine ⟨⟨Nat.le_of_ble_eq_true rfl, Nat.le_of_ble_eq_true rfl⟩, x_votes (by omega) (ff_z hf) ?_⟩ <;> conv => whnf)
    | (refine ⟨⟨Nat.le_of_ble_eq_true rfl, Nat.le_of_ble_eq_true rfl⟩, m_votes (by omega) (mf_z (ff_m hf)) ?_⟩ <;> conv => whnf)
    | (refine ⟨fun c => ?_, fun c => ?_⟩ <;> first | exact absurd c (by decide) | exact absurd (by decide) c | (conv => whnf))
    | fail
set_option maxRecDepth 100000 in
set_option maxHeartbeats 4000000 in
theorem lw_34 {d : Nat} {f : Nat → Nat → Int32} {g : Nat → Nat → Int64} (hd : 6 ≤ d) (hf : ff f) : m_nxt (lawK d 10) (m_sym pg_L_law (some (lawB 10)) (Run mtab d) lawQ (lawK d 10) 988) (m_drop pg_L_law 1166) [some (.ref 0), some (.ref 5), some (.ref 181), some (.int 0)] [] (shF 10, f, g) := by
  conv => whnf
  repeat' first
    | exact law_done rfl
    | (refine ⟨by unfold vp_in; decide, ?_⟩ <;> conv => whnf)
    | (refine ⟨⟨Nat.le_of_ble_eq_true rfl, Nat.le_of_ble_eq_true rfl⟩, x_state (by omega) (ff_z hf) ?_⟩ <;> conv => whnf)
    | (refine ⟨⟨Nat.le_of_ble_eq_true rfl, Nat.le_of_ble_eq_true rfl⟩, m_state (by omega) (mf_z (ff_m hf)) ?_⟩ <;> conv => whnf)
    | (refine ⟨fun c => ?_, fun c => ?_⟩ <;> first | exact absurd c (by decide) | exact absurd (by decide) c | (conv => whnf))
    | fail
set_option maxRecDepth 100000 in
set_option maxHeartbeats 4000000 in
theorem lw_35 {d : Nat} {f : Nat → Nat → Int32} {g : Nat → Nat → Int64} (hd : 6 ≤ d) (hf : ff f) : m_nxt (lawK d 10) (m_sym pg_L_law (some (lawB 10)) (Run mtab d) lawQ (lawK d 10) 988) (m_drop pg_L_law 1203) [some (.ref 0), some (.ref 5), some (.ref 181), some (.int 0)] [] (shF 10, f, g) := by
  conv => whnf
  repeat' first
    | (simp only [fr_e h1])
    | exact law_done rfl
    | (refine ⟨by unfold vp_in; decide, ?_⟩ <;> conv => whnf)
    | (refine ⟨⟨Nat.le_of_ble_eq_true rfl, Nat.le_of_ble_eq_true rfl⟩, x_unsure (by omega) (ff_z hf) (fun v1 f1 g1 hv1 h1 => ?_)⟩ <;> conv => whnf)
    | (refine ⟨⟨Nat.le_of_ble_eq_true rfl, Nat.le_of_ble_eq_true rfl⟩, m_unsure (by omega) (mf_z (mf_fr (ff_m hf) h1)) (fun v2 f2 g2 hv2 => ?_)⟩ <;> conv => whnf)
    | (refine ⟨fun c => ?_, fun c => ?_⟩ <;> first | exact absurd c (by decide) | exact absurd (by decide) c | exact absurd (v2_eq hv1 hv2) c | (conv => whnf))
    | fail
set_option maxRecDepth 100000 in
set_option maxHeartbeats 4000000 in
theorem lw_36 {d : Nat} {f : Nat → Nat → Int32} {g : Nat → Nat → Int64} (hd : 6 ≤ d) (hf : ff f) : m_nxt (lawK d 10) (m_sym pg_L_law (some (lawB 10)) (Run mtab d) lawQ (lawK d 10) 988) (m_drop pg_L_law 1230) [some (.ref 0), some (.ref 5), some (.ref 181), some (.int 0)] [] (shF 10, f, g) := by
  conv => whnf
  repeat' first
    | exact law_done rfl
    | (refine ⟨by unfold vp_in; decide, ?_⟩ <;> conv => whnf)
    | (refine ⟨⟨Nat.le_of_ble_eq_true rfl, Nat.le_of_ble_eq_true rfl⟩, x_leaning (by omega) (ff_z hf) ?_⟩ <;> conv => whnf)
    | (refine ⟨⟨Nat.le_of_ble_eq_true rfl, Nat.le_of_ble_eq_true rfl⟩, m_leaning (by omega) (mf_z (ff_m hf)) ?_⟩ <;> conv => whnf)
    | (refine ⟨fun c => ?_, fun c => ?_⟩ <;> first | exact absurd c (by decide) | exact absurd (by decide) c | (conv => whnf))
    | fail
set_option maxRecDepth 100000 in
set_option maxHeartbeats 4000000 in
theorem lw_37 {d : Nat} {f : Nat → Nat → Int32} {g : Nat → Nat → Int64} (hd : 6 ≤ d) (hf : ff f) : m_nxt (lawK d 10) (m_sym pg_L_law (some (lawB 10)) (Run mtab d) lawQ (lawK d 10) 988) (m_drop pg_L_law 1247) [some (.ref 0), some (.ref 5), some (.ref 181), some (.int 0)] [] (shF 10, f, g) := by
  conv => whnf
  repeat' first
    | (simp only [fr_e h1])
    | exact law_done rfl
    | (refine ⟨by unfold vp_in; decide, ?_⟩ <;> conv => whnf)
    | (refine ⟨⟨Nat.le_of_ble_eq_true rfl, Nat.le_of_ble_eq_true rfl⟩, x_edition (by omega) (ff_z hf) (fun f1 g1 h1 => ?_)⟩ <;> conv => whnf)
    | (refine ⟨⟨Nat.le_of_ble_eq_true rfl, Nat.le_of_ble_eq_true rfl⟩, m_edition (by omega) (mf_z (mf_fr (ff_m hf) h1)) (mf_29 (mf_fr (ff_m hf) h1)) (fun f2 g2 => ?_)⟩ <;> conv => whnf)
    | (refine ⟨fun c => ?_, fun c => ?_⟩ <;> first | exact absurd c (by decide) | exact absurd (by decide) c | (conv => whnf))
    | fail
set_option maxRecDepth 100000 in
set_option maxHeartbeats 4000000 in
theorem lw_38 {d : Nat} {f : Nat → Nat → Int32} {g : Nat → Nat → Int64} (hd : 6 ≤ d) (hf : ff f) : m_nxt (lawK d 10) (m_sym pg_L_law (some (lawB 10)) (Run mtab d) lawQ (lawK d 10) 988) (m_drop pg_L_law 1254) [some (.ref 0), some (.ref 5), some (.ref 181), some (.int 0)] [] (shF 10, f, g) := by
  conv => whnf
  repeat' first
    | exact law_done rfl
    | (refine ⟨by unfold vp_in; decide, ?_⟩ <;> conv => whnf)
    | (refine ⟨⟨Nat.le_of_ble_eq_true rfl, Nat.le_of_ble_eq_true rfl⟩, x_number (by omega) (ff_z hf) ?_⟩ <;> conv => whnf)
    | (refine ⟨⟨Nat.le_of_ble_eq_true rfl, Nat.le_of_ble_eq_true rfl⟩, m_number (by omega) (mf_z (ff_m hf)) ?_⟩ <;> conv => whnf)
    | (refine ⟨fun c => ?_, fun c => ?_⟩ <;> first | exact absurd c (by decide) | exact absurd (by decide) c | (conv => whnf))
    | fail
set_option maxRecDepth 100000 in
set_option maxHeartbeats 4000000 in
theorem lw_39 {d : Nat} {f : Nat → Nat → Int32} {g : Nat → Nat → Int64} (hd : 6 ≤ d) (hf : ff f) : m_nxt (lawK d 10) (m_sym pg_L_law (some (lawB 10)) (Run mtab d) lawQ (lawK d 10) 988) (m_drop pg_L_law 1271) [some (.ref 0), some (.ref 5), some (.ref 181), some (.int 0)] [] (shF 10, f, g) := by
  conv => whnf
  repeat' first
    | (simp only [fr_e h1])
    | exact law_done rfl
    | (refine ⟨by unfold vp_in; decide, ?_⟩ <;> conv => whnf)
    | (refine ⟨⟨Nat.le_of_ble_eq_true rfl, Nat.le_of_ble_eq_true rfl⟩, x_count (by omega) (ff_z hf) (fun v1 f1 g1 hv1 h1 => ?_)⟩ <;> conv => whnf)
    | (refine ⟨⟨Nat.le_of_ble_eq_true rfl, Nat.le_of_ble_eq_true rfl⟩, m_count (by omega) (mf_z (mf_fr (ff_m hf) h1)) (fun v2 f2 g2 hv2 => ?_)⟩ <;> conv => whnf)
    | (refine ⟨fun c => ?_, fun c => ?_⟩ <;> first | exact absurd c (by decide) | exact absurd (by decide) c | exact absurd (v2_eq hv1 hv2) c | (conv => whnf))
    | fail
set_option maxRecDepth 100000 in
set_option maxHeartbeats 4000000 in
theorem lw_40 {d : Nat} {f : Nat → Nat → Int32} {g : Nat → Nat → Int64} (hd : 6 ≤ d) (hf : ff f) : m_nxt (lawK d 10) (m_sym pg_L_law (some (lawB 10)) (Run mtab d) lawQ (lawK d 10) 988) (m_drop pg_L_law 1288) [some (.ref 0), some (.ref 5), some (.ref 181), some (.int 0)] [] (shF 10, f, g) := by
  conv => whnf
  repeat' first
    | (simp only [fr_e h1])
    | exact law_done rfl
    | (refine ⟨by unfold vp_in; decide, ?_⟩ <;> conv => whnf)
    | (refine ⟨⟨Nat.le_of_ble_eq_true rfl, Nat.le_of_ble_eq_true rfl⟩, x_sheet (by omega) (fun v1 f1 g1 hv1 h1 => ?_)⟩ <;> conv => whnf)
    | (refine ⟨⟨Nat.le_of_ble_eq_true rfl, Nat.le_of_ble_eq_true rfl⟩, m_sheet (by omega) (fun v2 f2 g2 hv2 => ?_)⟩ <;> conv => whnf)
    | (refine ⟨fun c => ?_, fun c => ?_⟩ <;> first | exact absurd c (by decide) | exact absurd (by decide) c | exact absurd (v3_eq hv1 hv2) c | (conv => whnf))
    | fail
set_option maxRecDepth 100000 in
set_option maxHeartbeats 4000000 in
theorem lw_41 {d : Nat} {f : Nat → Nat → Int32} {g : Nat → Nat → Int64} (hd : 6 ≤ d) (hf : ff f) : m_nxt (lawK d 10) (m_sym pg_L_law (some (lawB 10)) (Run mtab d) lawQ (lawK d 10) 988) (m_drop pg_L_law 1325) [some (.ref 0), some (.ref 5), some (.ref 181), some (.int 0)] [] (shF 10, f, g) := by
  conv => whnf
  repeat' first
    | exact absurd p1 p2
    | exact absurd p2 p1
    | exact law_done rfl
    | (refine ⟨by unfold vp_in; decide, ?_⟩ <;> conv => whnf)
    | (refine ⟨⟨Nat.le_of_ble_eq_true rfl, Nat.le_of_ble_eq_true rfl⟩, x_drop (by omega) (ff_len hf) (fun p1 => ?_) (fun p1 => ?_)⟩ <;> conv => whnf)
    | (refine ⟨⟨Nat.le_of_ble_eq_true rfl, Nat.le_of_ble_eq_true rfl⟩, m_drop_ (by omega) (mf_lan (ff_m hf)) (fun p2 => ?_) (fun p2 => ?_)⟩ <;> conv => whnf)
    | (refine ⟨fun c => ?_, fun c => ?_⟩ <;> first | exact absurd c (by decide) | exact absurd (by decide) c | (conv => whnf))
    | fail
set_option maxRecDepth 100000 in
set_option maxHeartbeats 4000000 in
theorem lw_42 {d : Nat} {f : Nat → Nat → Int32} {g : Nat → Nat → Int64} (hd : 6 ≤ d) (hf : ff f) : m_nxt (lawK d 10) (m_sym pg_L_law (some (lawB 10)) (Run mtab d) lawQ (lawK d 10) 988) (m_drop pg_L_law 1342) [some (.ref 0), some (.ref 5), some (.ref 181), some (.int 0)] [] (shF 10, f, g) := by
  conv => whnf
  repeat' first
    | exact absurd p1 p2
    | exact absurd p2 p1
    | exact law_done rfl
    | (refine ⟨by unfold vp_in; decide, ?_⟩ <;> conv => whnf)
    | (refine ⟨⟨Nat.le_of_ble_eq_true rfl, Nat.le_of_ble_eq_true rfl⟩, x_item (by omega) (ff_len hf) (fun p1 => ?_) (fun p1 => ?_)⟩ <;> conv => whnf)
    | (refine ⟨⟨Nat.le_of_ble_eq_true rfl, Nat.le_of_ble_eq_true rfl⟩, m_item (by omega) (mf_lan (ff_m hf)) (fun p2 => ?_) (fun p2 => ?_)⟩ <;> conv => whnf)
    | (refine ⟨fun c => ?_, fun c => ?_⟩ <;> first | exact absurd c (by decide) | exact absurd (by decide) c | (conv => whnf))
    | fail
set_option maxRecDepth 100000 in
set_option maxHeartbeats 4000000 in
theorem lw_43 {d : Nat} {f : Nat → Nat → Int32} {g : Nat → Nat → Int64} (hd : 6 ≤ d) (hf : ff f) : m_nxt (lawK d 10) (m_sym pg_L_law (some (lawB 10)) (Run mtab d) lawQ (lawK d 10) 988) (m_drop pg_L_law 1389) [some (.ref 0), some (.ref 5), some (.ref 181), some (.int 0)] [] (shF 10, f, g) := by
  conv => whnf
  repeat' first
    | exact absurd p1 p2
    | exact absurd p2 p1
    | exact law_done rfl
    | (refine ⟨by unfold vp_in; decide, ?_⟩ <;> conv => whnf)
    | (refine ⟨⟨Nat.le_of_ble_eq_true rfl, Nat.le_of_ble_eq_true rfl⟩, x_holdings (by omega) (ff_len hf) (fun p1 => ?_) (fun p1 => ?_)⟩ <;> conv => whnf)
    | (refine ⟨⟨Nat.le_of_ble_eq_true rfl, Nat.le_of_ble_eq_true rfl⟩, m_holdings (by omega) (mf_lan (ff_m hf)) (fun p2 => ?_) (fun p2 => ?_)⟩ <;> conv => whnf)
    | (refine ⟨fun c => ?_, fun c => ?_⟩ <;> first | exact absurd c (by decide) | exact absurd (by decide) c | (conv => whnf))
    | fail
