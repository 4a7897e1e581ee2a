set_option maxRecDepth 100000 in
set_option maxHeartbeats 4000000 in
theorem smq_joinAll {d L : Nat} {f : Nat → Nat → Int32} {g : Nat → Nat → Int64} {n0 c0 v0 : Nat} {R : Option Value → mH → Prop} (hd : 9 ≤ d) (hX : XI f) (hI : MI f) (hY : MY n0 c0 v0 f) (H : ∀ f' g', XI f' → kp [10, 22, 23] f f' → MY n0 c0 v0 f' → R none (shF L, f', g')) : Run mtab d 207 [.ref 181] (shF L, f, g) R := by
  obtain ⟨d, rfl⟩ : ∃ e, d = e + 1 := ⟨d - 1, by omega⟩
  refine go_X11_joinAll rfl ?_
  conv => whnf
  refine smq_refresh (by omega) hX hY (fun f1 h1 o1 k1 y1 yc1 z1 => ?_)
  conv => whnf
  refine ⟨fun z => ?_, fun z => ?_⟩
  · conv => whnf
    refine ⟨Or.inr rfl, ?_⟩
    conv => whnf
    exact sm_ja1_lp (f0 := f1) (by omega) (MI_kp hI k1 rfl) (fun f2 g2 h2 k2 => H f2 g2 h2 (kp_trans k1 (kp_wd k2 rfl)) (MY_kp k2 rfl y1)) 50 0 _ _ _ (by omega) rfl (XI_ui h1 True.intro) (kp_ui rfl (kp_refl _ _))
  · conv => whnf
    exact H _ _ h1 k1 y1
set_option maxRecDepth 100000 in
set_option maxHeartbeats 4000000 in
theorem smq_score {d L : Nat} {f : Nat → Nat → Int32} {g : Nat → Nat → Int64} {n0 c0 v0 : Nat}{x1 x2 : Int32} {R : Option Value → mH → Prop} (hd : 10 ≤ d) (hX : XI f) (hI : MI f) (hY : MY n0 c0 v0 f) (H : ∀ v f' g', XI f' → kp [10, 22, 23] f f' → MY n0 c0 v0 f' → R (some (.int v)) (shF L, f', g')) : Run mtab d 197 [.ref 181, .int x1, .int x2] (shF L, f, g) R := by
  obtain ⟨d, rfl⟩ : ∃ e, d = e + 1 := ⟨d - 1, by omega⟩
  refine go_X11_score rfl ?_
  conv => whnf
  obtain ⟨mn, hmm, hmb⟩ := inr_nat (n := 50) rfl (xi_181_27 hX)
  obtain ⟨n, hm, hb⟩ := inr_nat (n := 40) rfl (xi_181_0 hX)
  repeat' first
    | ((with_reducible refine ⟨vp_in_nI (by omega) (by decide), ?_⟩) <;> conv => whnf)
    | (refine ⟨Or.inl rfl, ?_⟩ <;> conv => whnf)
    | (refine ⟨Or.inr rfl, ?_⟩ <;> conv => whnf)
    | (refine ⟨Or.inl True.intro, ?_⟩ <;> conv => whnf)
    | (refine ⟨Or.inr True.intro, ?_⟩ <;> conv => whnf)
    | (refine ⟨fun c => ?_, fun c => ?_⟩ <;> first | ((have c9 : (1 : Int32) = 0 := by with_reducible exact c); exact absurd c9 (by decide)) | exact absurd (rfl : (0 : Int32) = 0) (by with_reducible exact c) | exact absurd True.intro (by with_reducible exact c) | exact False.elim (by with_reducible exact c) | (conv => whnf))
    | (refine sm_isMention (by omega) hmb hmm (fun mj hmj e => ?_) (fun q => ?_) <;> (try subst e) <;> conv => whnf)
    | (refine ct_mIsWork (by omega) hb hm (fun j hj e => ?_) (fun q => ?_) <;> (try subst e) <;> conv => whnf)
    | (refine smq_refresh (by omega) hX hY (fun f1 h1 o1 k1 y1 yc1 z1 => ?_) <;> conv => whnf)
    | ((obtain ⟨⟨t, ht1, ht4, ht⟩, _⟩ := MI_kp hI k1 rfl n hm ((k1 181 0 rfl).trans hb) j hj); refine sm_scoreOf (by omega) h1 (by omega) (by omega) ht ht1 ht4 (fun v => ?_) <;> conv => whnf)
    | (refine ⟨by unfold vp_in; decide, ?_⟩ <;> conv => whnf)
    | fail
  all_goals exact H _ _ _ (by repeat' first | (with_reducible assumption) | (with_reducible refine XI_ui ?_ ?_) | (with_reducible refine XI_fil ?_ (fun _ => ?_)) | (with_reducible refine XI_cpy ?_ (fun _ _ => ?_)) | exact True.intro | ((show inr _ _ _); first | (with_reducible assumption) | (unfold inr; decide)) | fail) (by repeat' first | (with_reducible exact kp_refl _ _) | (with_reducible assumption) | (with_reducible refine kp_ui ?_ ?_) | (with_reducible refine kp_fil ?_ ?_) | (with_reducible refine kp_cpy ?_ ?_) | (refine kp_trans ?_ (kp_wd k1 rfl)) | (refine kp_trans ?_ (kp_fx k1 rfl)) | rfl | fail) (by first | exact y1 | exact hY)
set_option maxRecDepth 100000 in
set_option maxHeartbeats 4000000 in
theorem smq_rivals {d L : Nat} {f : Nat → Nat → Int32} {g : Nat → Nat → Int64} {n0 c0 v0 : Nat}{x1 : Int32} {R : Option Value → mH → Prop} (hd : 10 ≤ d) (hX : XI f) (hI : MI f) (hY : MY n0 c0 v0 f) (H : ∀ v f' g', XI f' → kp [10, 22, 23] f f' → MY n0 c0 v0 f' → R (some (.int v)) (shF L, f', g')) : Run mtab d 199 [.ref 181, .int x1] (shF L, f, g) R := by
  obtain ⟨d, rfl⟩ : ∃ e, d = e + 1 := ⟨d - 1, by omega⟩
  refine go_X11_rivals rfl ?_
  conv => whnf
  obtain ⟨mn, hmm, hmb⟩ := inr_nat (n := 50) rfl (xi_181_27 hX)
  repeat' first
    | ((with_reducible refine ⟨vp_in_nI (by omega) (by decide), ?_⟩) <;> conv => whnf)
    | (refine ⟨Or.inl rfl, ?_⟩ <;> conv => whnf)
    | (refine ⟨Or.inr rfl, ?_⟩ <;> conv => whnf)
    | (refine ⟨Or.inl True.intro, ?_⟩ <;> conv => whnf)
    | (refine ⟨Or.inr True.intro, ?_⟩ <;> conv => whnf)
    | (refine ⟨fun c => ?_, fun c => ?_⟩ <;> first | ((have c9 : (1 : Int32) = 0 := by with_reducible exact c); exact absurd c9 (by decide)) | exact absurd (rfl : (0 : Int32) = 0) (by with_reducible exact c) | exact absurd True.intro (by with_reducible exact c) | exact False.elim (by with_reducible exact c) | (conv => whnf))
    | (refine sm_isMention (by omega) hmb hmm (fun mj hmj e => ?_) (fun q => ?_) <;> (try subst e) <;> conv => whnf)
    | (refine smq_refresh (by omega) hX hY (fun f1 h1 o1 k1 y1 yc1 z1 => ?_) <;> conv => whnf)
    | (refine sm_rivalsOf (by omega) h1 (MI_kp hI k1 rfl) (by omega) (fun v => ?_) <;> conv => whnf)
    | (refine ⟨by unfold vp_in; decide, ?_⟩ <;> conv => whnf)
    | fail
  all_goals exact H _ _ _ (by repeat' first | (with_reducible assumption) | (with_reducible refine XI_ui ?_ ?_) | (with_reducible refine XI_fil ?_ (fun _ => ?_)) | (with_reducible refine XI_cpy ?_ (fun _ _ => ?_)) | exact True.intro | ((show inr _ _ _); first | (with_reducible assumption) | (unfold inr; decide)) | fail) (by repeat' first | (with_reducible exact kp_refl _ _) | (with_reducible assumption) | (with_reducible refine kp_ui ?_ ?_) | (with_reducible refine kp_fil ?_ ?_) | (with_reducible refine kp_cpy ?_ ?_) | (refine kp_trans ?_ (kp_wd k1 rfl)) | (refine kp_trans ?_ (kp_fx k1 rfl)) | rfl | fail) (by first | exact y1 | exact hY)
set_option maxRecDepth 100000 in
set_option maxHeartbeats 4000000 in
theorem smq_joined {d L : Nat} {f : Nat → Nat → Int32} {g : Nat → Nat → Int64} {n0 c0 v0 : Nat}{x1 : Int32} {R : Option Value → mH → Prop} (hd : 10 ≤ d) (hX : XI f) (hI : MI f) (hY : MY n0 c0 v0 f) (H : ∀ v f' g', XI f' → kp [10, 22, 23] f f' → MY n0 c0 v0 f' → R (some (.int v)) (shF L, f', g')) : Run mtab d 208 [.ref 181, .int x1] (shF L, f, g) R := by
  obtain ⟨d, rfl⟩ : ∃ e, d = e + 1 := ⟨d - 1, by omega⟩
  refine go_X11_joined rfl ?_
  conv => whnf
  obtain ⟨mn, hmm, hmb⟩ := inr_nat (n := 50) rfl (xi_181_27 hX)
  repeat' first
    | ((with_reducible refine ⟨vp_in_nI (by omega) (by decide), ?_⟩) <;> conv => whnf)
    | (refine ⟨Or.inl rfl, ?_⟩ <;> conv => whnf)
    | (refine ⟨Or.inr rfl, ?_⟩ <;> conv => whnf)
    | (refine ⟨Or.inl True.intro, ?_⟩ <;> conv => whnf)
    | (refine ⟨Or.inr True.intro, ?_⟩ <;> conv => whnf)
    | (refine ⟨fun c => ?_, fun c => ?_⟩ <;> first | ((have c9 : (1 : Int32) = 0 := by with_reducible exact c); exact absurd c9 (by decide)) | exact absurd (rfl : (0 : Int32) = 0) (by with_reducible exact c) | exact absurd True.intro (by with_reducible exact c) | exact False.elim (by with_reducible exact c) | (conv => whnf))
    | (refine sm_isMention (by omega) hmb hmm (fun mj hmj e => ?_) (fun q => ?_) <;> (try subst e) <;> conv => whnf)
    | (refine smq_joinAll (by omega) hX hI hY (fun f1 g1 h1 k1 y1 => ?_) <;> conv => whnf)
    | (refine ⟨by unfold vp_in; decide, ?_⟩ <;> conv => whnf)
    | fail
  all_goals exact H _ _ _ (by repeat' first | (with_reducible assumption) | (with_reducible refine XI_ui ?_ ?_) | (with_reducible refine XI_fil ?_ (fun _ => ?_)) | (with_reducible refine XI_cpy ?_ (fun _ _ => ?_)) | exact True.intro | ((show inr _ _ _); first | (with_reducible assumption) | (unfold inr; decide)) | fail) (by repeat' first | (with_reducible exact kp_refl _ _) | (with_reducible assumption) | (with_reducible refine kp_ui ?_ ?_) | (with_reducible refine kp_fil ?_ ?_) | (with_reducible refine kp_cpy ?_ ?_) | (refine kp_trans ?_ (kp_wd k1 rfl)) | (refine kp_trans ?_ (kp_fx k1 rfl)) | rfl | fail) (by first | exact y1 | exact hY)
set_option maxRecDepth 100000 in
set_option maxHeartbeats 4000000 in
theorem smq_sure {d L : Nat} {f : Nat → Nat → Int32} {g : Nat → Nat → Int64} {n0 c0 v0 : Nat}{x1 : Int32} {R : Option Value → mH → Prop} (hd : 10 ≤ d) (hX : XI f) (hI : MI f) (hY : MY n0 c0 v0 f) (H : ∀ v f' g', XI f' → kp [10, 22, 23] f f' → MY n0 c0 v0 f' → R (some (.int v)) (shF L, f', g')) : Run mtab d 209 [.ref 181, .int x1] (shF L, f, g) R := by
  obtain ⟨d, rfl⟩ : ∃ e, d = e + 1 := ⟨d - 1, by omega⟩
  refine go_X11_sure rfl ?_
  conv => whnf
  obtain ⟨mn, hmm, hmb⟩ := inr_nat (n := 50) rfl (xi_181_27 hX)
  repeat' first
    | ((with_reducible refine ⟨vp_in_nI (by omega) (by decide), ?_⟩) <;> conv => whnf)
    | (refine ⟨Or.inl rfl, ?_⟩ <;> conv => whnf)
    | (refine ⟨Or.inr rfl, ?_⟩ <;> conv => whnf)
    | (refine ⟨Or.inl True.intro, ?_⟩ <;> conv => whnf)
    | (refine ⟨Or.inr True.intro, ?_⟩ <;> conv => whnf)
    | (refine ⟨fun c => ?_, fun c => ?_⟩ <;> first | ((have c9 : (1 : Int32) = 0 := by with_reducible exact c); exact absurd c9 (by decide)) | exact absurd (rfl : (0 : Int32) = 0) (by with_reducible exact c) | exact absurd True.intro (by with_reducible exact c) | exact False.elim (by with_reducible exact c) | (conv => whnf))
    | (refine sm_isMention (by omega) hmb hmm (fun mj hmj e => ?_) (fun q => ?_) <;> (try subst e) <;> conv => whnf)
    | (refine smq_joinAll (by omega) hX hI hY (fun f1 g1 h1 k1 y1 => ?_) <;> conv => whnf)
    | (refine ⟨by unfold vp_in; decide, ?_⟩ <;> conv => whnf)
    | fail
  all_goals exact H _ _ _ (by repeat' first | (with_reducible assumption) | (with_reducible refine XI_ui ?_ ?_) | (with_reducible refine XI_fil ?_ (fun _ => ?_)) | (with_reducible refine XI_cpy ?_ (fun _ _ => ?_)) | exact True.intro | ((show inr _ _ _); first | (with_reducible assumption) | (unfold inr; decide)) | fail) (by repeat' first | (with_reducible exact kp_refl _ _) | (with_reducible assumption) | (with_reducible refine kp_ui ?_ ?_) | (with_reducible refine kp_fil ?_ ?_) | (with_reducible refine kp_cpy ?_ ?_) | (refine kp_trans ?_ (kp_wd k1 rfl)) | (refine kp_trans ?_ (kp_fx k1 rfl)) | rfl | fail) (by first | exact y1 | exact hY)
set_option maxRecDepth 100000 in
set_option maxHeartbeats 4000000 in
theorem smq_sum {d L : Nat} {f : Nat → Nat → Int32} {g : Nat → Nat → Int64} {n0 c0 v0 : Nat}{x1 : Int32} {R : Option Value → mH → Prop} (hd : 10 ≤ d) (hX : XI f) (hI : MI f) (hY : MY n0 c0 v0 f) (H : ∀ v f' g', XI f' → kp [10, 22, 23] f f' → MY n0 c0 v0 f' → R (some (.int v)) (shF L, f', g')) : Run mtab d 210 [.ref 181, .int x1] (shF L, f, g) R := by
  obtain ⟨d, rfl⟩ : ∃ e, d = e + 1 := ⟨d - 1, by omega⟩
  refine go_X11_sum rfl ?_
  conv => whnf
  repeat' first
    | ((with_reducible refine ⟨vpi ‹inr 0 15 _› (by decide), ?_⟩) <;> conv => whnf)
    | ((with_reducible refine ⟨vp_in_nI (by omega) (by decide), ?_⟩) <;> conv => whnf)
    | (refine ⟨Or.inl rfl, ?_⟩ <;> conv => whnf)
    | (refine ⟨Or.inr rfl, ?_⟩ <;> conv => whnf)
    | (refine ⟨Or.inl True.intro, ?_⟩ <;> conv => whnf)
    | (refine ⟨Or.inr True.intro, ?_⟩ <;> conv => whnf)
    | (refine ⟨fun c => ?_, fun c => ?_⟩ <;> first | ((have c9 : (1 : Int32) = 0 := by with_reducible exact c); exact absurd c9 (by decide)) | exact absurd (rfl : (0 : Int32) = 0) (by with_reducible exact c) | exact absurd True.intro (by with_reducible exact c) | exact False.elim (by with_reducible exact c) | (conv => whnf))
    | ((with_reducible refine ct_i_0_15 (by omega) (fun p => ?_) (fun p => ?_)) <;> conv => whnf)
    | (refine smq_joinAll (by omega) hX hI hY (fun f1 g1 h1 k1 y1 => ?_) <;> conv => whnf)
    | (refine ⟨by unfold vp_in; decide, ?_⟩ <;> conv => whnf)
    | fail
  all_goals exact H _ _ _ (by repeat' first | (with_reducible assumption) | (with_reducible refine XI_ui ?_ ?_) | (with_reducible refine XI_fil ?_ (fun _ => ?_)) | (with_reducible refine XI_cpy ?_ (fun _ _ => ?_)) | exact True.intro | ((show inr _ _ _); first | (with_reducible assumption) | (unfold inr; decide)) | fail) (by repeat' first | (with_reducible exact kp_refl _ _) | (with_reducible assumption) | (with_reducible refine kp_ui ?_ ?_) | (with_reducible refine kp_fil ?_ ?_) | (with_reducible refine kp_cpy ?_ ?_) | (refine kp_trans ?_ (kp_wd k1 rfl)) | (refine kp_trans ?_ (kp_fx k1 rfl)) | rfl | fail) (by first | exact y1 | exact hY)
set_option maxRecDepth 100000 in
set_option maxHeartbeats 4000000 in
theorem smq_mentions {d L : Nat} {f : Nat → Nat → Int32} {g : Nat → Nat → Int64} {n0 c0 v0 : Nat}{x1 : Int32} {R : Option Value → mH → Prop} (hd : 10 ≤ d) (hX : XI f) (hI : MI f) (hY : MY n0 c0 v0 f) (H : ∀ v f' g', XI f' → kp [10, 22, 23] f f' → MY n0 c0 v0 f' → R (some (.int v)) (shF L, f', g')) : Run mtab d 211 [.ref 181, .int x1] (shF L, f, g) R := by
  obtain ⟨d, rfl⟩ : ∃ e, d = e + 1 := ⟨d - 1, by omega⟩
  refine go_X11_mentions rfl ?_
  conv => whnf
  obtain ⟨mn, hmm, hmb⟩ := inr_nat (n := 50) rfl (xi_181_27 hX)
  repeat' first
    | exact sm_mns_lp (by omega) h1 ((k1 181 27 rfl).trans hmb) hmm (MI_kp hI k1 rfl) (fun v => H v _ _ h1 k1 y1) mn 0 _ _ (by omega) rfl
    | ((with_reducible refine ⟨vp_in_nI (by omega) (by decide), ?_⟩) <;> conv => whnf)
    | (refine ⟨Or.inl rfl, ?_⟩ <;> conv => whnf)
    | (refine ⟨Or.inr rfl, ?_⟩ <;> conv => whnf)
    | (refine ⟨Or.inl True.intro, ?_⟩ <;> conv => whnf)
    | (refine ⟨Or.inr True.intro, ?_⟩ <;> conv => whnf)
    | (refine ⟨fun c => ?_, fun c => ?_⟩ <;> first | ((have c9 : (1 : Int32) = 0 := by with_reducible exact c); exact absurd c9 (by decide)) | exact absurd (rfl : (0 : Int32) = 0) (by with_reducible exact c) | exact absurd True.intro (by with_reducible exact c) | exact False.elim (by with_reducible exact c) | (conv => whnf))
    | ((with_reducible refine ct_i_0_2 (by omega) (fun p => ?_) (fun p => ?_)) <;> conv => whnf)
    | (refine smq_joinAll (by omega) hX hI hY (fun f1 g1 h1 k1 y1 => ?_) <;> conv => whnf)
    | (refine ⟨by unfold vp_in; decide, ?_⟩ <;> conv => whnf)
    | fail
  all_goals exact H _ _ _ (by repeat' first | (with_reducible assumption) | (with_reducible refine XI_ui ?_ ?_) | (with_reducible refine XI_fil ?_ (fun _ => ?_)) | (with_reducible refine XI_cpy ?_ (fun _ _ => ?_)) | exact True.intro | ((show inr _ _ _); first | (with_reducible assumption) | (unfold inr; decide)) | fail) (by repeat' first | (with_reducible exact kp_refl _ _) | (with_reducible assumption) | (with_reducible refine kp_ui ?_ ?_) | (with_reducible refine kp_fil ?_ ?_) | (with_reducible refine kp_cpy ?_ ?_) | (refine kp_trans ?_ (kp_wd k1 rfl)) | (refine kp_trans ?_ (kp_fx k1 rfl)) | rfl | fail) (by first | exact y1 | exact hY)
set_option maxRecDepth 100000 in
set_option maxHeartbeats 4000000 in
theorem smq_counted {d L : Nat} {f : Nat → Nat → Int32} {g : Nat → Nat → Int64} {n0 c0 v0 : Nat}{x1 x2 x3 : Int32} {R : Option Value → mH → Prop} (hd : 10 ≤ d) (hX : XI f) (hI : MI f) (hY : MY n0 c0 v0 f) (H : ∀ v f' g', XI f' → kp [10, 22, 23] f f' → MY n0 c0 v0 f' → R (some (.int v)) (shF L, f', g')) : Run mtab d 213 [.ref 181, .int x1, .int x2, .int x3] (shF L, f, g) R := by
  obtain ⟨d, rfl⟩ : ∃ e, d = e + 1 := ⟨d - 1, by omega⟩
  refine go_X11_counted rfl ?_
  conv => whnf
  obtain ⟨n, hm, hb⟩ := inr_nat (n := 40) rfl (xi_181_0 hX)
  repeat' first
    | exact sm_ctd_lp (by omega) h1 ((k1 181 0 rfl).trans hb) hm (fun v => H v _ _ h1 k1 y1) n 0 _ _ _ _ _ _ (by omega) rfl
    | ((with_reducible refine ⟨vp_in_nI (by omega) (by decide), ?_⟩) <;> conv => whnf)
    | (refine ⟨Or.inl rfl, ?_⟩ <;> conv => whnf)
    | (refine ⟨Or.inr rfl, ?_⟩ <;> conv => whnf)
    | (refine ⟨Or.inl True.intro, ?_⟩ <;> conv => whnf)
    | (refine ⟨Or.inr True.intro, ?_⟩ <;> conv => whnf)
    | (refine ⟨fun c => ?_, fun c => ?_⟩ <;> first | ((have c9 : (1 : Int32) = 0 := by with_reducible exact c); exact absurd c9 (by decide)) | exact absurd (rfl : (0 : Int32) = 0) (by with_reducible exact c) | exact absurd True.intro (by with_reducible exact c) | exact False.elim (by with_reducible exact c) | (conv => whnf))
    | ((with_reducible refine ct_i_0_2 (by omega) (fun p => ?_) (fun p => ?_)) <;> conv => whnf)
    | ((with_reducible refine ct_i_0_4 (by omega) (fun p => ?_) (fun p => ?_)) <;> conv => whnf)
    | (refine smq_joinAll (by omega) hX hI hY (fun f1 g1 h1 k1 y1 => ?_) <;> conv => whnf)
    | (refine ⟨by unfold vp_in; decide, ?_⟩ <;> conv => whnf)
    | fail
  all_goals exact H _ _ _ (by repeat' first | (with_reducible assumption) | (with_reducible refine XI_ui ?_ ?_) | (with_reducible refine XI_fil ?_ (fun _ => ?_)) | (with_reducible refine XI_cpy ?_ (fun _ _ => ?_)) | exact True.intro | ((show inr _ _ _); first | (with_reducible assumption) | (unfold inr; decide)) | fail) (by repeat' first | (with_reducible exact kp_refl _ _) | (with_reducible assumption) | (with_reducible refine kp_ui ?_ ?_) | (with_reducible refine kp_fil ?_ ?_) | (with_reducible refine kp_cpy ?_ ?_) | (refine kp_trans ?_ (kp_wd k1 rfl)) | (refine kp_trans ?_ (kp_fx k1 rfl)) | rfl | fail) (by first | exact y1 | exact hY)
set_option maxRecDepth 100000 in
set_option maxHeartbeats 4000000 in
theorem smq_lookAside {d L : Nat} {f : Nat → Nat → Int32} {g : Nat → Nat → Int64} {n0 c0 v0 : Nat} {R : Option Value → mH → Prop} (hd : 7 ≤ d) (hX : XI f) (hY : MY n0 c0 v0 f) (H : ∀ v f' g', (v = -4 ∨ ∃ s, s ≤ 3 ∧ v = nI s) → XI f' → kp [10, 22, 23] f f' → MY n0 c0 v0 f' → R (some (.int v)) (shF L, f', g')) : Run mtab d 187 [.ref 181] (shF L, f, g) R := by
  obtain ⟨d, rfl⟩ : ∃ e, d = e + 1 := ⟨d - 1, by omega⟩
  refine go_X11_lookAside rfl ?_
  conv => whnf
  refine smq_refresh (by omega) hX hY (fun f1 h1 o1 k1 y1 yc1 z1 => ?_)
  conv => whnf
  refine sm_findAsides (by omega) h1 (fun v f2 g2 hv h2 k2 => ?_)
  conv => whnf
  have k2' : kp [10, 22, 23] f1 f2 := kp_fx k2 rfl
  refine smf_findYears (n := n0) (c := c0) (v := v0) (by omega) (CM_kp k2' rfl rfl y1.1) ((k2 181 48 (by omega)).trans y1.2.1) y1.2.2.1 (fun f3 o3 e3 y3 => ?_)
  conv => whnf
  have m2 : MY n0 c0 v0 f3 := ⟨CM_o o3 (CM_kp k2' rfl rfl y1.1), (o3 181 48 (by omega) (by omega) (by omega) (by omega) (by omega) (by omega)).trans ((k2 181 48 (by omega)).trans y1.2.1), y1.2.2.1, fun _ => y3⟩
  exact H _ _ _ hv (XI_o6 h2 o3) (kp_trans k1 (kp_trans k2' (kp_o6 o3))) m2
set_option maxRecDepth 100000 in
set_option maxHeartbeats 4000000 in
theorem smq_asides {d L : Nat} {f : Nat → Nat → Int32} {g : Nat → Nat → Int64} {n0 c0 v0 : Nat} {R : Option Value → mH → Prop} (hd : 8 ≤ d) (hX : XI f) (hY : MY n0 c0 v0 f) (H : ∀ v f' g', XI f' → kp [10, 22, 23] f f' → MY n0 c0 v0 f' → R (some (.int v)) (shF L, f', g')) : Run mtab d 188 [.ref 181] (shF L, f, g) R := by
  obtain ⟨d, rfl⟩ : ∃ e, d = e + 1 := ⟨d - 1, by omega⟩
  refine go_X11_asides rfl ?_
  conv => whnf
  refine smq_lookAside (by omega) hX hY (fun v f1 g1 hv h1 k1 y1 => ?_)
  conv => whnf
  exact H _ _ _ h1 k1 y1
set_option maxRecDepth 100000 in
set_option maxHeartbeats 4000000 in
theorem smq_aside {d L : Nat} {f : Nat → Nat → Int32} {g : Nat → Nat → Int64} {n0 c0 v0 : Nat}{x1 : Int32} {R : Option Value → mH → Prop} (hd : 8 ≤ d) (hX : XI f) (hY : MY n0 c0 v0 f) (H : ∀ v f' g', XI f' → kp [10, 22, 23] f f' → MY n0 c0 v0 f' → R (some (.int v)) (shF L, f', g')) : Run mtab d 189 [.ref 181, .int x1] (shF L, f, g) R := by
  obtain ⟨d, rfl⟩ : ∃ e, d = e + 1 := ⟨d - 1, by omega⟩
  refine go_X11_aside rfl ?_
  conv => whnf
  refine ⟨fun c0 => ?_, fun c => ?_⟩
  · conv => whnf
    refine smq_lookAside (by omega) hX hY (fun v f1 g1 hv h1 k1 y1 => ?_)
    conv => whnf
    refine ⟨fun c => ?_, fun c => ?_⟩
    · conv => whnf
      refine ⟨fun c2 => ?_, fun c2 => ?_⟩
      · conv => whnf
        exact H _ _ _ h1 k1 y1
      · rcases hv with rfl | ⟨s, hs, rfl⟩
        · exact absurd c (by decide)
        · obtain ⟨a, ha, rfl⟩ := nI_of (i32_nlt.mpr c0)
          rw [nI_leI (by omega) ha] at c2
          conv => whnf
          refine ⟨vp_in_nI (by omega) (by decide), ?_⟩
          conv => whnf
          exact H _ _ _ h1 k1 y1
    · conv => whnf
      exact H _ _ _ h1 k1 y1
  · conv => whnf
    exact H _ _ _ hX (kp_refl _ _) hY
set_option maxRecDepth 100000 in
set_option maxHeartbeats 4000000 in
theorem smq_edition {d L : Nat} {f : Nat → Nat → Int32} {g : Nat → Nat → Int64} {n0 c0 v0 : Nat} {R : Option Value → mH → Prop} (hd : 9 ≤ d) (hX : XI f) (hY : MY n0 c0 v0 f) (H : ∀ v f' g', XI f' → kp [10, 17, 22, 23] f f' → MY n0 c0 v0 f' → f' 181 50 = edn (f 181 50) → R (some (.int v)) (shF L, f', g')) : Run mtab d 233 [.ref 181] (shF L, f, g) R := by
  obtain ⟨d, rfl⟩ : ∃ e, d = e + 1 := ⟨d - 1, by omega⟩
  refine go_X11_edition rfl ?_
  conv => whnf
  refine ⟨fun z => ?_, fun z => ?_⟩
  · conv => whnf
    refine smq_refresh (by omega) hX hY (fun f1 h1 o1 k1 y1 yc1 z1 => ?_)
    obtain ⟨n, hm, hb⟩ := inr_nat (n := 40) rfl (xi_181_0 h1)
    obtain ⟨vn, hvm, hvb⟩ := inr_nat (n := 60) rfl (xi_181_48 h1)
    conv => whnf
    exact smf_ed1_lp (f0 := f1) (fz := f1) (ev := f 181 50) (by omega) hm hb hvb hvm (kp_refl _ _) (k1 181 50 rfl) (fun v f' g' a b e => H v f' g' a (kp_trans (kp_wd k1 rfl) (kp_wd b rfl)) (MY_kp b rfl y1) (e.trans (edn_n z).symm)) n 0 _ _ _ _ _ _ _ _ _ (by omega) rfl h1 (fx_refl _ _ _) ⟨0, by omega, rfl⟩
  · conv => whnf
    exact H _ _ _ hX (kp_refl _ _) hY (edn_9 z)
