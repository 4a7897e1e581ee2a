/-- a call that tells the model that the years are to be found anew, and touches none of what they lean on -/
def st0 (f f1 : Nat → Nat → Int32) : Prop := f1 = f ∨ ((∀ a i, (a = 187 ∨ a = 188 ∨ (196 ≤ a ∧ a ≤ 198)) → f1 a i = f a i) ∧ f1 181 0 = f 181 0 ∧ f1 181 16 = f 181 16 ∧ f1 181 48 = f 181 48 ∧ f1 181 29 = 0)
theorem MY_st0 {f f1 : Nat → Nat → Int32} {n c v : Nat} (m : MY n c v f) (s : st0 f f1) : ∃ n c v, MY n c v f1 := by
  rcases s with rfl | ⟨h, h0, h16, h48, h29⟩
  · exact ⟨n, c, v, m⟩
  · exact ⟨n, c, v, CM_q h h0 h16 m.1, h48.trans m.2.1, m.2.2.1, fun z => absurd h29 z⟩
theorem st0_kp {l : List Nat} {f f1 : Nat → Nat → Int32} (k : kp l f f1) (h11 : hasN l 11 = false) (h14 : hasN l 14 = false) (h15 : hasN l 15 = false) (h29 : f1 181 29 = 0) : st0 f f1 := by
  refine Or.inr ⟨fun a i h => ?_, k 181 0 (by exact h11), k 181 16 (by exact h15), k 181 48 (by exact h14), h29⟩
  rcases h with rfl | rfl | ⟨h1, h2⟩
  · exact k 187 i (by exact h11)
  · exact k 188 i (by exact h11)
  · have e : a = 196 ∨ a = 197 ∨ a = 198 := by omega
    rcases e with rfl | rfl | rfl
    · exact k 196 i (by exact h15)
    · exact k 197 i (by exact h15)
    · exact k 198 i (by exact h15)
theorem st_retitle {n : Nat} {f f1 : Nat → Nat → Int32} {x1 x2 x3 v : Int32} (s : SM_retitle n f f1 x1 x2 x3 v) : st0 f f1 := by
  rcases s with ⟨_, _, rfl⟩ | ⟨j, q, _, _, _, _, _, _, _, ⟨_, _, rfl⟩ | ⟨_, _, _, rfl⟩ | ⟨_, _, _, rfl⟩⟩
  · exact Or.inl rfl
  · exact Or.inl rfl
  · exact Or.inl rfl
  · unfold mtit
    refine Or.inr ⟨fun a i h => ?_, ?_, ?_, ?_, m_ui_s⟩
    · rw [m_ui_o (by omega), m_ui_o (by omega), m_ui_o (by omega), m_ui_o (by omega)]
    · rw [m_ui_o (by omega), m_ui_o (by omega), m_ui_o (by omega), m_ui_o (by omega)]
    · rw [m_ui_o (by omega), m_ui_o (by omega), m_ui_o (by omega), m_ui_o (by omega)]
    · rw [m_ui_o (by omega), m_ui_o (by omega), m_ui_o (by omega), m_ui_o (by omega)]
theorem st_cut {n : Nat} {f f1 : Nat → Nat → Int32} {x1 x2 x3 x4 v : Int32} (s : SM_cut n f f1 x1 x2 x3 x4 v) : st0 f f1 := by
  rcases s with ⟨_, _, rfl⟩ | ⟨j, _, _, _, _, _, ⟨_, _, rfl⟩ | ⟨_, _, _, rfl⟩ | ⟨_, _, _, rfl⟩⟩
  · exact Or.inl rfl
  · exact Or.inl rfl
  · exact Or.inl rfl
  · unfold mcut
    refine Or.inr ⟨fun a i h => ?_, ?_, ?_, ?_, m_ui_s⟩
    · rw [m_ui_o (by omega), m_ui_o (by omega), m_ui_o (by omega), m_ui_o (by omega)]
    · rw [m_ui_o (by omega), m_ui_o (by omega), m_ui_o (by omega), m_ui_o (by omega)]
    · rw [m_ui_o (by omega), m_ui_o (by omega), m_ui_o (by omega), m_ui_o (by omega)]
    · rw [m_ui_o (by omega), m_ui_o (by omega), m_ui_o (by omega), m_ui_o (by omega)]
theorem st_holding {n h : Nat} {f f1 : Nat → Nat → Int32} {x1 x2 x3 x4 x5 x6 v : Int32} (s : SM_holding n h f f1 x1 x2 x3 x4 x5 x6 v) : st0 f f1 := by
  have k := km_holding s
  rcases s with ⟨_, _, rfl⟩ | ⟨_, ⟨_, _, rfl⟩ | ⟨_, _, rfl⟩⟩
  · exact Or.inl rfl
  · exact Or.inl rfl
  · exact st0_kp k rfl rfl rfl m_ui_s
theorem st_unhold {h : Nat} {f f1 : Nat → Nat → Int32} {v : Int32} (s : SM_unhold h f f1 v) : st0 f f1 := by
  have k := km_unhold s
  rcases s with ⟨_, _, rfl⟩ | ⟨_, _, rfl⟩
  · exact Or.inl rfl
  · exact st0_kp k rfl rfl rfl m_ui_s
theorem st_holdings {n h : Nat} {f f1 : Nat → Nat → Int32} {x1 x2 x3 x4 v : Int32} (s : SM_holdings n h f f1 x1 x2 x3 x4 v) : st0 f f1 := by
  have k := km_holdings s
  rcases s with ⟨_, _, rfl⟩ | ⟨s, m, _, _, _, _, _, ⟨_, _, _, rfl⟩ | ⟨_, _, _, rfl⟩ | ⟨_, _, _, rfl⟩ | ⟨_, _, a, _, _, ⟨_, _, rfl⟩ | ⟨_, _, _, rfl⟩ | ⟨_, _, _, rfl⟩⟩⟩
  · exact Or.inl rfl
  · exact Or.inl rfl
  · exact Or.inl rfl
  · exact Or.inl rfl
  · exact Or.inl rfl
  · exact Or.inl rfl
  · cases m with
    | zero => exact Or.inl rfl
    | succ m => exact st0_kp k rfl rfl rfl rfl
theorem st_use {h : Nat} {f f1 : Nat → Nat → Int32} {x1 x2 v : Int32} (s : SM_use h f f1 x1 x2 v) : st0 f f1 := by
  rcases s with ⟨_, _, rfl⟩ | ⟨k, _, _, _, rfl⟩
  · exact Or.inl rfl
  · refine Or.inr ⟨fun a i h => ?_, ?_, ?_, ?_, m_ui_s⟩
    · rw [m_ui_o (by omega), m_ui_o (by omega)]
    · rw [m_ui_o (by omega), m_ui_o (by omega)]
    · rw [m_ui_o (by omega), m_ui_o (by omega)]
    · rw [m_ui_o (by omega), m_ui_o (by omega)]
theorem st_mention {h : Nat} {f f1 : Nat → Nat → Int32} {x1 x2 x3 x4 x5 x6 x7 x8 x9 v : Int32} (s : SM_mention h f f1 x1 x2 x3 x4 x5 x6 x7 x8 x9 v) : st0 f f1 := by
  have k := km_mention s
  rcases s with ⟨_, _, rfl⟩ | ⟨_, ⟨_, _, rfl⟩ | ⟨_, _, rfl⟩⟩
  · exact Or.inl rfl
  · exact Or.inl rfl
  · exact st0_kp k rfl rfl rfl m_ui_s
theorem MY_add {n c v : Nat} {f : Nat → Nat → Int32} {kind of tu h w t lo hi : Int32} (m : MY n c v f) (hn : n < 40) (ht : toldw h w t lo hi) : MY (n + 1) c v (madd f n kind of tu h w t lo hi) := by
  obtain ⟨⟨m1, m2, m3, m4, m5, m6⟩, m7, m8, _⟩ := m
  obtain ⟨_, _, _, t1, t2, t3⟩ := ht
  unfold madd
  refine ⟨⟨by omega, m2, ?_, ?_, fun k hk => ?_, fun j hj => ?_⟩, ?_, m8, fun z => absurd m_ui_s z⟩
  · rw [m_ui_o (by omega), m_ui_s]
    exact nI_1 n
  · rw [m_ui_o (by omega), m_ui_o (by omega), m_ui_o (by omega), m_ui_o (by omega), m_ui_o (by omega), m_ui_o (by omega), m_ui_o (by omega), m_ui_o (by omega), m_ui_o (by omega), m_ui_o (by omega), m_ui_o (by omega)]
    exact m4
  · obtain ⟨⟨x, hx, ex⟩, ⟨y, hy, ey⟩, z⟩ := m5 k hk
    rw [m_ui_o (by omega), m_ui_o (by omega), m_ui_o (by omega), m_ui_o (by omega), m_ui_o (by omega), m_ui_o (by omega), m_ui_o (by omega), m_ui_o (by omega), m_ui_o (by omega), m_ui_o (by omega), m_ui_o (by omega)]
    rw [m_ui_o (by omega), m_ui_o (by omega), m_ui_o (by omega), m_ui_o (by omega), m_ui_o (by omega), m_ui_o (by omega), m_ui_o (by omega), m_ui_o (by omega), m_ui_o (by omega), m_ui_o (by omega), m_ui_o (by omega)]
    rw [m_ui_o (by omega), m_ui_o (by omega), m_ui_o (by omega), m_ui_o (by omega), m_ui_o (by omega), m_ui_o (by omega), m_ui_o (by omega), m_ui_o (by omega), m_ui_o (by omega), m_ui_o (by omega), m_ui_o (by omega)]
    exact ⟨⟨x, by omega, ex⟩, ⟨y, by omega, ey⟩, z⟩
  · by_cases e : j = n
    · subst e
      have e1 : ∀ q : Nat → Nat → Int32, m_ui (m_ui (m_ui (m_ui (m_ui (m_ui q 187 j lo) 188 j hi) 189 (4 * j) t) 191 j 1) 181 0 (nI j + 1)) 181 29 0 187 j = lo := fun q => by rw [m_ui_o (by omega), m_ui_o (by omega), m_ui_o (by omega), m_ui_o (by omega), m_ui_o (by omega), m_ui_s]
      have e2 : ∀ q : Nat → Nat → Int32, m_ui (m_ui (m_ui (m_ui (m_ui q 188 j hi) 189 (4 * j) t) 191 j 1) 181 0 (nI j + 1)) 181 29 0 188 j = hi := fun q => by rw [m_ui_o (by omega), m_ui_o (by omega), m_ui_o (by omega), m_ui_o (by omega), m_ui_s]
      rw [e1, e2]
      exact ⟨t1, t2, t3⟩
    · have q := m6 j (by omega)
      rw [m_ui_o (by omega), m_ui_o (by omega), m_ui_o (by omega), m_ui_o (by omega), m_ui_o (by omega), m_ui_o (by omega), m_ui_o (by omega), m_ui_o (by omega), m_ui_o (by omega), m_ui_o (by omega), m_ui_o (by omega)]
      rw [m_ui_o (by omega), m_ui_o (by omega), m_ui_o (by omega), m_ui_o (by omega), m_ui_o (by omega), m_ui_o (by omega), m_ui_o (by omega), m_ui_o (by omega), m_ui_o (by omega), m_ui_o (by omega), m_ui_o (by omega)]
      exact q
  · rw [m_ui_o (by omega), m_ui_o (by omega), m_ui_o (by omega), m_ui_o (by omega), m_ui_o (by omega), m_ui_o (by omega), m_ui_o (by omega), m_ui_o (by omega), m_ui_o (by omega), m_ui_o (by omega), m_ui_o (by omega)]
    exact m7
theorem MY_AddM {n c v : Nat} {f f1 : Nat → Nat → Int32} {kind of tu h w t lo hi r : Int32} (m : MY n c v f) (ht : toldw h w t lo hi) (s : AddM n f f1 kind of tu h w t lo hi r) : ∃ n c v, MY n c v f1 := by
  rcases s with ⟨_, _, rfl⟩ | ⟨hn, _, rfl⟩
  · exact ⟨n, c, v, m⟩
  · exact ⟨n + 1, c, v, MY_add m hn ht⟩
theorem MY_work {n c v : Nat} {f f1 : Nat → Nat → Int32} {x1 x2 x3 x4 x5 x6 r : Int32} (m : MY n c v f) (s : SM_work n f f1 x1 x2 x3 x4 x5 x6 r) : ∃ n c v, MY n c v f1 := by
  rcases s with ⟨_, _, rfl⟩ | ⟨⟨_, ht⟩, s⟩
  · exact ⟨n, c, v, m⟩
  · exact MY_AddM m ht s
theorem MY_version {n c v : Nat} {f f1 : Nat → Nat → Int32} {x1 x2 x3 x4 x5 x6 r : Int32} (m : MY n c v f) (s : SM_version n f f1 x1 x2 x3 x4 x5 x6 r) : ∃ n c v, MY n c v f1 := by
  rcases s with ⟨_, _, rfl⟩ | ⟨j, _, _, ht, ⟨_, _, rfl⟩ | ⟨_, s⟩⟩
  · exact ⟨n, c, v, m⟩
  · exact ⟨n, c, v, m⟩
  · exact MY_AddM m ht s
theorem MY_print {n c v : Nat} {f f1 : Nat → Nat → Int32} {x1 x2 x3 x4 x5 x6 x7 r : Int32} (m : MY n c v f) (s : SM_print n f f1 x1 x2 x3 x4 x5 x6 x7 r) : ∃ n c v, MY n c v f1 := by
  rcases s with ⟨_, _, rfl⟩ | ⟨j, _, _, ht, s⟩
  · exact ⟨n, c, v, m⟩
  · exact MY_AddM m ht s
theorem MY_clue {n c v : Nat} {f f1 : Nat → Nat → Int32} {x1 x2 x3 r : Int32} (m : MY n c v f) (s : SM_clue n c f f1 x1 x2 x3 r) : ∃ n c v, MY n c v f1 := by
  rcases s with ⟨_, _, rfl⟩ | ⟨hw, ⟨_, _, rfl⟩ | ⟨hc, _, rfl⟩⟩
  · exact ⟨n, c, v, m⟩
  · exact ⟨n, c, v, m⟩
  · obtain ⟨⟨m1, m2, m3, m4, m5, m6⟩, m7, m8, _⟩ := m
    obtain ⟨⟨a, ha, ea⟩, ⟨b, hb, eb⟩, _, h30⟩ := hw
    unfold mcadd
    refine ⟨n, c + 1, v, ⟨m1, by omega, ?_, ?_, fun k hk => ?_, fun j hj => ?_⟩, ?_, m8, fun z => absurd m_ui_s z⟩
    · rw [m_ui_o (by omega), m_ui_o (by omega), m_ui_o (by omega), m_ui_o (by omega), m_ui_o (by omega), m_ui_o (by omega)]
      exact m3
    · rw [m_ui_o (by omega), m_ui_s]
    · by_cases e : k = c
      · subst e
        refine ⟨⟨a, ha, ?_⟩, ⟨b, hb, ?_⟩, ?_⟩
        · rw [m_ui_o (by omega), m_ui_o (by omega), m_ui_o (by omega), m_ui_o (by omega), m_ui_o (by omega), m_ui_s]
          exact ea
        · rw [m_ui_o (by omega), m_ui_o (by omega), m_ui_o (by omega), m_ui_o (by omega), m_ui_s]
          exact eb
        · rw [m_ui_o (by omega), m_ui_o (by omega), m_ui_o (by omega), m_ui_s]
          exact h30
      · have q := m5 k (by omega)
        rw [m_ui_o (by omega), m_ui_o (by omega), m_ui_o (by omega), m_ui_o (by omega), m_ui_o (by omega), m_ui_o (by omega)]
        rw [m_ui_o (by omega), m_ui_o (by omega), m_ui_o (by omega), m_ui_o (by omega), m_ui_o (by omega), m_ui_o (by omega)]
        rw [m_ui_o (by omega), m_ui_o (by omega), m_ui_o (by omega), m_ui_o (by omega), m_ui_o (by omega), m_ui_o (by omega)]
        exact q
    · have q := m6 j hj
      rw [m_ui_o (by omega), m_ui_o (by omega), m_ui_o (by omega), m_ui_o (by omega), m_ui_o (by omega), m_ui_o (by omega)]
      rw [m_ui_o (by omega), m_ui_o (by omega), m_ui_o (by omega), m_ui_o (by omega), m_ui_o (by omega), m_ui_o (by omega)]
      exact q
    · rw [m_ui_o (by omega), m_ui_o (by omega), m_ui_o (by omega), m_ui_o (by omega), m_ui_o (by omega), m_ui_o (by omega)]
      exact m7
theorem MY_vote {n h c v : Nat} {f f1 : Nat → Nat → Int32} {x1 x2 x3 x4 x5 r : Int32} (m : MY n c v f) (s : SM_vote n h v f f1 x1 x2 x3 x4 x5 r) : ∃ n c v, MY n c v f1 := by
  have k := km_vote s
  rcases s with ⟨_, _, rfl⟩ | ⟨j, _, _, _, ⟨_, _, rfl⟩ | ⟨_, _, _, rfl⟩ | ⟨_, hv, q, _, _, _, rfl⟩⟩
  · exact ⟨n, c, v, m⟩
  · exact ⟨n, c, v, m⟩
  · exact ⟨n, c, v, m⟩
  · refine ⟨n, c, v + 1, CM_kp k rfl rfl m.1, ?_, by omega, fun z => absurd m_ui_s z⟩
    unfold mvadd
    rw [m_ui_o (by omega), m_ui_s]
theorem MY_at {n c v n' c' v' : Nat} {f : Nat → Nat → Int32} (m : MY n' c' v' f) (hR : RW n f) (hC : RC c f) (hV : RV v f) : MY n c v f := by
  have a1 := hR.1
  have a2 := hC.1
  have a3 := hV.1
  obtain ⟨⟨m1, m2, m3, m4, m5, m6⟩, m7, m8, m9⟩ := m
  have e1 : n' = n := (nI_eq (by omega) (by omega)).mp (m3.symm.trans hR.2.2.1)
  have e2 : c' = c := (nI_eq (by omega) (by omega)).mp (m4.symm.trans hC.2.2.1)
  have e3 : v' = v := (nI_eq (by omega) (by omega)).mp (m7.symm.trans hV.2.2.1)
  subst e1
  subst e2
  subst e3
  exact ⟨⟨m1, m2, m3, m4, m5, m6⟩, m7, m8, m9⟩
/-- what holds between calls, with the years -/
def GM (f : Nat → Nat → Int32) : Prop := GE f ∧ Z137 f ∧ ∃ n c v, MY n c v f
def ok21 (l : List Nat) : Bool := !hasN l 21
theorem Z_kp {l : List Nat} {f f' : Nat → Nat → Int32} (k : kp l f f') (hl : ok21 l = true) (h : Z137 f) : Z137 f' := fun j => by
  unfold ok21 at hl
  simp only [Bool.not_eq_true'] at hl
  exact (k 137 j (by exact hl)).trans (h j)
theorem MYe_kp {l : List Nat} {f f' : Nat → Nat → Int32} (k : kp l f f') (hl : okm l = true) (h : ∃ n c v, MY n c v f) : ∃ n c v, MY n c v f' := by
  obtain ⟨n, c, v, m⟩ := h
  exact ⟨n, c, v, MY_kp k hl m⟩
theorem GM_x {l : List Nat} {f f' : Nat → Nat → Int32} (h : GM f) (x : XI f') (k : kp l f f') (hl : ((okg l && oke l) && (okm l && ok21 l)) = true) : GM f' := by
  rw [Bool.and_eq_true, Bool.and_eq_true (okm l)] at hl
  exact ⟨GE_x h.1 x k hl.1, Z_kp k hl.2.2 h.2.1, MYe_kp k hl.2.1 h.2.2⟩
theorem GM_m {l : List Nat} {f f' : Nat → Nat → Int32} (h : GM f) (x : XI f') (k : kp l f f') (m : ∃ n c v, MY n c v f') (hl : ((okg l && oke l) && ok21 l) = true) : GM f' := by
  rw [Bool.and_eq_true] at hl
  exact ⟨GE_x h.1 x k hl.1, Z_kp k hl.2 h.2.1, m⟩
theorem GM_s {l l' : List Nat} {f f1 f2 : Nat → Nat → Int32} (h : GM f) (k1 : kp l f f1) (k2 : kp l' f1 f2) (j : GK f2) (m : ∃ n c v, MY n c v f2) (hl : ((okw l && oke l) && ok21 l) = true) (hl' : ((okw l' && oke l') && ok21 l') = true) : GM f2 := by
  rw [Bool.and_eq_true] at hl hl'
  exact ⟨GE_j h.1 k1 k2 j hl.1 hl'.1, Z_kp k2 hl'.2 (Z_kp k1 hl.2 h.2.1), m⟩
theorem GM_j {l l' : List Nat} {f f1 f2 : Nat → Nat → Int32} (h : GM f) (k1 : kp l f f1) (k2 : kp l' f1 f2) (j : GK f2) (hl : ((okw l && oke l) && (okm l && ok21 l)) = true) (hl' : ((okw l' && oke l') && (okm l' && ok21 l')) = true) : GM f2 := by
  rw [Bool.and_eq_true, Bool.and_eq_true (okm l)] at hl
  rw [Bool.and_eq_true, Bool.and_eq_true (okm l')] at hl'
  exact ⟨GE_j h.1 k1 k2 j hl.1 hl'.1, Z_kp k2 hl'.2.2 (Z_kp k1 hl.2.2 h.2.1), MYe_kp k2 hl'.2.1 (MYe_kp k1 hl.2.1 h.2.2)⟩
theorem GM_v {f f1 f2 : Nat → Nat → Int32} (h : GM f) (k1 : kp [4] f f1) (k2 : kp [10, 14, 22] f1 f2) (x : XI f2) (r : ∃ v, RV v f2) (m : ∃ n c v, MY n c v f2) : GM f2 := ⟨GE_v h.1 k1 k2 x r, Z_kp k2 rfl (Z_kp k1 rfl h.2.1), m⟩
theorem GM_ed {f f1 f2 : Nat → Nat → Int32} (h : GM f) (x1 : XI f1) (k1 : kp [0, 7] f f1) (e1 : EI f1) (q1 : f1 168 7 = edn (f 168 7)) (x2 : XI f2) (k2 : kp [10, 17, 22, 23] f1 f2) (m : ∃ n c v, MY n c v f2) (q2 : f2 181 50 = edn (f1 181 50)) : GM f2 := by
  refine ⟨⟨GL_x (GL_xE h.1.1 x1 k1 e1) x2 k2 rfl, ?_⟩, Z_kp k2 rfl (Z_kp k1 rfl h.2.1), m⟩
  rw [k2 168 7 rfl, q1, q2, k1 181 50 rfl, h.1.2]
theorem GM_ini {f : Nat → Nat → Int32} (hf : ∀ a i, 6 ≤ a → f a i = if a < 227 then inix a i else 0) (h3 : ab3 f) (h2 : ab2 f) : GM f := by
  have z : ∀ i, f 181 i = 0 := fun i => by rw [hf 181 i (by omega), if_pos (by omega), inix_0 _ (by decide)]
  refine ⟨GE_ini hf h3 h2, fun k => ?_, 0, 0, 0, ⟨by omega, by omega, z 0, z 16, fun k hk => absurd hk (by omega), fun k hk => absurd hk (by omega)⟩, z 48, by omega, fun q => absurd (z 29) q⟩
  rw [hf 137 k (by omega), if_pos (by omega), inix_0 _ (by decide)]
