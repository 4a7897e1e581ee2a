theorem XI_oadd {f : Nat → Nat → Int32} {h : Nat} {x1 x2 x3 x4 x5 x6 : Int32} (hX : XI f) (hh : h < 60) : XI (oadd f h x1 x2 x3 x4 x5 x6) := by
  unfold oadd
  exact XI_ui (XI_ui (XI_ui (XI_ui (XI_ui (XI_ui (XI_ui hX True.intro) True.intro) True.intro) True.intro) True.intro) True.intro) (show inr 0 60 _ from inr_n1 (m := 60) (by omega) rfl (by decide))
theorem XI_kadd {f : Nat → Nat → Int32} {h : Nat} {x1 x2 x3 x4 x5 x6 : Int32} (hX : XI f) (hh : h < 60) : XI (kadd f h x1 x2 x3 x4 x5 x6) := by
  unfold kadd
  exact XI_ui (XI_ui (XI_ui (XI_ui (XI_ui (XI_ui (XI_ui (XI_ui hX True.intro) True.intro) True.intro) True.intro) True.intro) True.intro) (show inr 0 60 _ from inr_n (m := 60) (by omega) rfl (by decide))) True.intro
theorem XI_oaddn {f : Nat → Nat → Int32} {h : Nat} {r : Nat → Nat → Int32} (hX : XI f) : ∀ m, h + m ≤ 60 → XI (oaddn f h r m)
  | 0, _ => hX
  | m + 1, hm => XI_oadd (XI_oaddn hX m (by omega)) (by omega)
theorem XI_kaddn {f : Nat → Nat → Int32} {h : Nat} {r : Nat → Nat → Int32} (hX : XI f) : ∀ m, h + m ≤ 60 → XI (kaddn f h r m)
  | 0, _ => hX
  | m + 1, hm => XI_kadd (XI_kaddn hX m (by omega)) (by omega)
theorem kx_holding {n h : Nat} {f f1 : Nat → Nat → Int32} {x1 x2 x3 x4 x5 x6 v : Int32} (s : SX_holding n h f f1 x1 x2 x3 x4 x5 x6 v) : kp [2] f f1 := by
  rcases s with ⟨_, _, rfl⟩ | ⟨_, ⟨_, _, rfl⟩ | ⟨_, _, rfl⟩⟩
  · exact kp_refl _ _
  · exact kp_refl _ _
  · exact kp_fx fx_oadd rfl
theorem km_holding {n h : Nat} {f f1 : Nat → Nat → Int32} {x1 x2 x3 x4 x5 x6 v : Int32} (s : SM_holding n h f f1 x1 x2 x3 x4 x5 x6 v) : kp [10, 12, 22] f f1 := by
  rcases s with ⟨_, _, rfl⟩ | ⟨_, ⟨_, _, rfl⟩ | ⟨_, _, rfl⟩⟩
  · exact kp_refl _ _
  · exact kp_refl _ _
  · exact kp_kadd
theorem fin_holding {n h : Nat} {f f1 f2 : Nat → Nat → Int32} {x1 x2 x3 x4 x5 x6 v1 v2 : Int32} (hX : XI f) (hO : RO h f) (s1 : SX_holding n h f f1 x1 x2 x3 x4 x5 x6 v1) (s2 : SM_holding n h f1 f2 x1 x2 x3 x4 x5 x6 v2) : XI f2 ∧ (∃ h, RO h f2) ∧ v1 = v2 := by
  rcases s1 with ⟨q1, rfl, rfl⟩ | ⟨p1, s1⟩
  · rcases s2 with ⟨q2, rfl, rfl⟩ | ⟨p2, _⟩
    · exact ⟨hX, ⟨h, hO⟩, rfl⟩
    · exact absurd p2 q1
  · rcases s2 with ⟨q2, rfl, rfl⟩ | ⟨p2, s2⟩
    · exact absurd p1 q2
    · rcases s1 with ⟨e1, rfl, rfl⟩ | ⟨e1, rfl, rfl⟩
      · rcases s2 with ⟨e2, rfl, rfl⟩ | ⟨e2, rfl, rfl⟩
        · exact ⟨hX, ⟨h, hO⟩, rfl⟩
        · omega
      · rcases s2 with ⟨e2, rfl, rfl⟩ | ⟨e2, rfl, rfl⟩
        · omega
        · exact ⟨XI_kadd (XI_oadd hX e1) e1, ⟨h + 1, RO_addn (r := (fun _ t => match t with | 0 => x1 | 1 => x2 | 2 => x3 | 3 => x4 | 4 => x5 | _ => x6)) hO (by omega) (fun k hk => p1.2.1)⟩, rfl⟩
theorem kx_unhold {h : Nat} {f f1 : Nat → Nat → Int32} {v : Int32} (s : SX_unhold h f f1 v) : kp [2] f f1 := by
  rcases s with ⟨_, _, rfl⟩ | ⟨_, _, rfl⟩
  · exact kp_refl _ _
  · exact kp_ui rfl (kp_refl _ _)
theorem km_unhold {h : Nat} {f f1 : Nat → Nat → Int32} {v : Int32} (s : SM_unhold h f f1 v) : kp [10, 12, 22] f f1 := by
  rcases s with ⟨_, _, rfl⟩ | ⟨_, _, rfl⟩
  · exact kp_refl _ _
  · exact kp_ui rfl (kp_ui rfl (kp_refl _ _))
theorem fin_unhold {h : Nat} {f f1 f2 : Nat → Nat → Int32} {v1 v2 : Int32} (hX : XI f) (hO : RO h f) (s1 : SX_unhold h f f1 v1) (s2 : SM_unhold h f1 f2 v2) : XI f2 ∧ (∃ h, RO h f2) ∧ v1 = v2 := by
  rcases s1 with ⟨q1, rfl, rfl⟩ | ⟨p1, rfl, rfl⟩
  · rcases s2 with ⟨q2, rfl, rfl⟩ | ⟨p2, rfl, rfl⟩
    · exact ⟨hX, ⟨h, hO⟩, rfl⟩
    · omega
  · rcases s2 with ⟨q2, rfl, rfl⟩ | ⟨p2, rfl, rfl⟩
    · omega
    · obtain ⟨a, b, c, d⟩ := hO
      refine ⟨XI_ui (XI_ui (XI_ui hX (show inr 0 60 _ from inr_n (m := 60) (by omega) rfl (by decide))) (show inr 0 60 _ from inr_n (m := 60) (by omega) rfl (by decide))) True.intro, ⟨h - 1, by omega, ?_, ?_, fun k hk => ?_⟩, rfl⟩
      · rw [m_ui_o (by omega), m_ui_o (by omega), m_ui_s]
      · rw [m_ui_o (by omega), m_ui_s]
      · have := d k (by omega)
        unfold RH at this ⊢
        have e : ∀ p i, ¬ (p = 181) → ¬ (p = 100) → m_ui (m_ui (m_ui f 100 6 (nI (h - 1))) 181 14 (nI (h - 1))) 181 29 0 p i = f p i := fun p i h1 h2 => by
          rw [m_ui_o (by omega), m_ui_o (by omega), m_ui_o (by omega)]
        rw [e 101 k (by decide) (by decide), e 102 k (by decide) (by decide), e 103 k (by decide) (by decide), e 104 k (by decide) (by decide), e 105 k (by decide) (by decide), e 106 k (by decide) (by decide), e 195 _ (by decide) (by decide), e 195 _ (by decide) (by decide), e 195 _ (by decide) (by decide), e 195 _ (by decide) (by decide), e 195 _ (by decide) (by decide), e 195 _ (by decide) (by decide)]
        exact this
theorem kx_holdings {n h : Nat} {f f1 : Nat → Nat → Int32} {x1 x2 x3 x4 v : Int32} (s : SX_holdings n h f f1 x1 x2 x3 x4 v) : kp [2] f f1 := by
  rcases s with ⟨_, _, rfl⟩ | ⟨t, m, _, _, _, _, _, ⟨_, _, rfl⟩ | ⟨_, _, _, rfl⟩ | ⟨_, _, _, _, rfl⟩ | ⟨_, _, _, a, _, _, ⟨_, _, rfl⟩ | ⟨_, _, _, rfl⟩ | ⟨_, _, _, rfl⟩⟩⟩
  · exact kp_refl _ _
  · exact kp_refl _ _
  · exact kp_refl _ _
  · exact kp_refl _ _
  · exact kp_refl _ _
  · exact kp_refl _ _
  · exact kp_fx (fx_oaddn m) rfl
theorem km_holdings {n h : Nat} {f f1 : Nat → Nat → Int32} {x1 x2 x3 x4 v : Int32} (s : SM_holdings n h f f1 x1 x2 x3 x4 v) : kp [10, 12, 22] f f1 := by
  rcases s with ⟨_, _, rfl⟩ | ⟨t, m, _, _, _, _, _, ⟨_, _, _, rfl⟩ | ⟨_, _, _, rfl⟩ | ⟨_, _, _, rfl⟩ | ⟨_, _, a, _, _, ⟨_, _, rfl⟩ | ⟨_, _, _, rfl⟩ | ⟨_, _, _, rfl⟩⟩⟩
  · exact kp_refl _ _
  · exact kp_refl _ _
  · exact kp_refl _ _
  · exact kp_refl _ _
  · exact kp_refl _ _
  · exact kp_refl _ _
  · exact kp_kaddn m
theorem allw_congr {n m : Nat} {r r' : Nat → Nat → Int32} (h : ∀ k t, k < m → t < 6 → r k t = r' k t) : allw n m r ↔ allw n m r' := by
  constructor
  · intro a k hk
    have := a k hk
    rw [h k 0 hk (by omega), h k 1 hk (by omega), h k 2 hk (by omega), h k 3 hk (by omega), h k 4 hk (by omega), h k 5 hk (by omega)] at this
    exact this
  · intro a k hk
    have := a k hk
    rw [← h k 0 hk (by omega), ← h k 1 hk (by omega), ← h k 2 hk (by omega), ← h k 3 hk (by omega), ← h k 4 hk (by omega), ← h k 5 hk (by omega)] at this
    exact this
theorem kaddn_congr {f : Nat → Nat → Int32} {h : Nat} {r r' : Nat → Nat → Int32} : ∀ m, (∀ k t, k < m → t < 6 → r k t = r' k t) → kaddn f h r m = kaddn f h r' m
  | 0, _ => rfl
  | m + 1, e => by
    show kadd (kaddn f h r m) (h + m) _ _ _ _ _ _ = kadd (kaddn f h r' m) (h + m) _ _ _ _ _ _
    rw [kaddn_congr m (fun k t hk ht => e k t (by omega) ht), e m 0 (by omega) (by omega), e m 1 (by omega) (by omega), e m 2 (by omega) (by omega), e m 3 (by omega) (by omega), e m 4 (by omega) (by omega), e m 5 (by omega) (by omega)]
theorem fin_holdings {n h : Nat} {f f1 f2 : Nat → Nat → Int32} {x1 x2 x3 x4 v1 v2 : Int32} (hX : XI f) (hS : RS f) (hO : RO h f) (s1 : SX_holdings n h f f1 x1 x2 x3 x4 v1) (s2 : SM_holdings n h f1 f2 x1 x2 x3 x4 v2) : XI f2 ∧ (∃ h, RO h f2) ∧ v1 = v2 := by
  have k1 := kx_holdings s1
  have hbase : XI f ∧ (∃ h, RO h f) := ⟨hX, h, hO⟩
  rcases s1 with ⟨q1, rfl, rfl⟩ | ⟨s, m, hs, e1, p2, hm, em, s1⟩
  · rcases s2 with ⟨q2, rfl, rfl⟩ | ⟨t, m2, ht, e2, p2, hm2, em2, _⟩
    · exact ⟨hX, ⟨h, hO⟩, rfl⟩
    · exact absurd ⟨⟨by rw [e2]; exact inr_n (m := 3) (by omega) rfl (by decide), p2⟩, by rw [em2]; exact inr_n (m := 10) hm2 rfl (by decide)⟩ q1
  · rcases s2 with ⟨q2, rfl, rfl⟩ | ⟨t, m2, ht, e2, _, hm2, em2, s2⟩
    · exact absurd ⟨⟨by rw [e1]; exact inr_n (m := 3) (by omega) rfl (by decide), p2⟩, by rw [em]; exact inr_n (m := 10) hm rfl (by decide)⟩ q2
    · have est : s = t := (nI_eq (by omega) (by omega)).mp (e1.symm.trans e2)
      subst est
      have emm : m = m2 := (nI_eq (by omega) (by omega)).mp (em.symm.trans em2)
      subst emm
      have h226 : ∀ i, f1 226 i = f 226 i := fun i => k1 226 i rfl
      rw [k1 224 s rfl, k1 225 s rfl] at s2
      simp only [h226] at s2
      rcases hS s hs with ⟨u1, u2⟩ | ⟨a, b, c, d, g⟩
      · have hn : ¬ f 224 s = x2 := fun z => by
          have := p2.1
          rw [← z, u2] at this
          exact absurd this (by decide)
        have hl : f 224 s < 0 := by rw [u2]; exact n1_lt
        rcases s1 with ⟨_, rfl, rfl⟩ | ⟨r1, _⟩ | ⟨r1, _⟩ | ⟨r1, _⟩
        · rcases s2 with ⟨_, _, rfl, rfl⟩ | ⟨_, r2, _⟩ | ⟨r2, _⟩ | ⟨r2, _⟩
          · exact ⟨hX, ⟨h, hO⟩, rfl⟩
          · exact absurd hl r2
          · exact absurd r2 hn
          · exact absurd r2 hn
        · exact absurd u1 r1
        · exact absurd u1 r1
        · exact absurd u1 r1
      · have hne : ¬ f 180 s = -1 := fun z => by
          have := d.1
          rw [← c, z] at this
          exact absurd this (by decide)
        have hnl : ¬ f 224 s < 0 := i32_nlt.mpr b.1
        have hix : inr 0 (f 225 s - nI (6 * m)) x3 ↔ ¬ (x3 < 0 ∨ f 180 s - nI (m * 6) < x3) := by
          rw [c, Nat.mul_comm m 6]
          constructor
          · exact fun z q => q.elim (fun w => absurd w (i32_nlt.mpr z.1)) (fun w => absurd w (i32_nlt.mpr z.2))
          · exact fun z => ⟨i32_nlt.mp (fun w => z (Or.inl w)), i32_nlt.mp (fun w => z (Or.inr w))⟩
        rw [a] at s1
        rcases s1 with ⟨r1, _⟩ | ⟨_, r1, rfl, rfl⟩ | ⟨_, r1, r1', rfl, rfl⟩ | ⟨_, r1, r1', aa, ea, ha, s1⟩
        · exact absurd r1 hne
        · rcases s2 with ⟨_, r2, _⟩ | ⟨_, _, rfl, rfl⟩ | ⟨r2, _⟩ | ⟨r2, _⟩
          · exact absurd r2 hnl
          · exact ⟨hX, ⟨h, hO⟩, rfl⟩
          · exact absurd r2 r1
          · exact absurd r2 r1
        · rcases s2 with ⟨r2, _⟩ | ⟨r2, _⟩ | ⟨_, _, rfl, rfl⟩ | ⟨_, r2, _⟩
          · exact absurd r1 r2
          · exact absurd r1 r2
          · exact ⟨hX, ⟨h, hO⟩, rfl⟩
          · exact absurd r1' (hix.mp r2)
        · rcases s2 with ⟨r2, _⟩ | ⟨r2, _⟩ | ⟨_, r2, _⟩ | ⟨_, _, ab, eb, hab, s2⟩
          · exact absurd r1 r2
          · exact absurd r1 r2
          · exact absurd (hix.mpr r1') r2
          · have eaa : aa = ab := (nI_eq (by omega) (by omega)).mp (ea.symm.trans eb)
            subst eaa
            have hr : ∀ k t, k < m → t < 6 → (fun k t => f 226 (60 * s + aa + 6 * k + t)) k t = (fun k t => f (175 + s) (aa + 6 * k + t)) k t := fun k t hk ht => by
              show f 226 (60 * s + aa + 6 * k + t) = f (175 + s) (aa + 6 * k + t)
              rw [g (aa + 6 * k + t) (by omega)]
              congr 1
              omega
            unfold SH at s2
            rw [allw_congr hr] at s2
            rcases s1 with ⟨w1, rfl, rfl⟩ | ⟨w1, z1, rfl, rfl⟩ | ⟨w1, z1, rfl, rfl⟩
            · rcases s2 with ⟨w2, rfl, rfl⟩ | ⟨w2, _⟩ | ⟨w2, _⟩
              · exact ⟨hX, ⟨h, hO⟩, rfl⟩
              · exact absurd w2 w1
              · exact absurd w2 w1
            · rcases s2 with ⟨w2, _⟩ | ⟨w2, z2, rfl, rfl⟩ | ⟨w2, z2, _⟩
              · exact absurd w1 w2
              · exact ⟨hX, ⟨h, hO⟩, rfl⟩
              · omega
            · rcases s2 with ⟨w2, _⟩ | ⟨w2, z2, _⟩ | ⟨w2, z2, rfl, rfl⟩
              · exact absurd w1 w2
              · omega
              · rw [kaddn_congr m hr]
                exact ⟨XI_kaddn (XI_oaddn hX m z1) m z1, ⟨h + m, RO_addn hO z1 (fun k hk => (w1 k hk).2.1)⟩, rfl⟩
theorem km_work {n : Nat} {f f1 : Nat → Nat → Int32} {x1 x2 x3 x4 x5 x6 v : Int32} (s : SM_work n f f1 x1 x2 x3 x4 x5 x6 v) : kp [10, 11, 22] f f1 := by
  rcases s with ⟨_, _, rfl⟩ | ⟨_, ⟨_, _, rfl⟩ | ⟨hn, _, rfl⟩⟩
  · exact kp_refl _ _
  · exact kp_refl _ _
  · exact kp_madd
theorem km_version {n : Nat} {f f1 : Nat → Nat → Int32} {x1 x2 x3 x4 x5 x6 v : Int32} (s : SM_version n f f1 x1 x2 x3 x4 x5 x6 v) : kp [10, 11, 22] f f1 := by
  rcases s with ⟨_, _, rfl⟩ | ⟨j, _, _, _, ⟨_, _, rfl⟩ | ⟨_, ⟨_, _, rfl⟩ | ⟨hn, _, rfl⟩⟩⟩
  · exact kp_refl _ _
  · exact kp_refl _ _
  · exact kp_refl _ _
  · exact kp_madd
theorem km_print {n : Nat} {f f1 : Nat → Nat → Int32} {x1 x2 x3 x4 x5 x6 x7 v : Int32} (s : SM_print n f f1 x1 x2 x3 x4 x5 x6 x7 v) : kp [10, 11, 22] f f1 := by
  rcases s with ⟨_, _, rfl⟩ | ⟨j, _, _, _, ⟨_, _, rfl⟩ | ⟨hn, _, rfl⟩⟩
  · exact kp_refl _ _
  · exact kp_refl _ _
  · exact kp_madd
theorem km_retitle {n : Nat} {f f1 : Nat → Nat → Int32} {x1 x2 x3 v : Int32} (s : SM_retitle n f f1 x1 x2 x3 v) : kp [10, 11, 22] f f1 := by
  rcases s with ⟨_, _, rfl⟩ | ⟨j, q, hj, _, _, _, _, _, _, ⟨_, _, rfl⟩ | ⟨_, _, _, rfl⟩ | ⟨_, _, _, rfl⟩⟩
  · exact kp_refl _ _
  · exact kp_refl _ _
  · exact kp_refl _ _
  · exact kp_mtit
theorem km_cut {n : Nat} {f f1 : Nat → Nat → Int32} {x1 x2 x3 x4 v : Int32} (s : SM_cut n f f1 x1 x2 x3 x4 v) : kp [10, 11, 22] f f1 := by
  rcases s with ⟨_, _, rfl⟩ | ⟨j, hj, _, _, _, _, ⟨_, _, rfl⟩ | ⟨_, _, _, rfl⟩ | ⟨_, _, _, rfl⟩⟩
  · exact kp_refl _ _
  · exact kp_refl _ _
  · exact kp_refl _ _
  · exact kp_mcut
