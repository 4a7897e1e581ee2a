set_option maxRecDepth 100000 in
set_option maxHeartbeats 4000000 in
theorem ct_madd {d L : Nat} {f : Nat → Nat → Int32} {g : Nat → Nat → Int64} {x y t a b c u w : Int32} {R : Option Value → mH → Prop} (hd : 1 ≤ d) (z : mz f) (H : ∀ f' g', R (some (.int 0)) (shF L, f', g')) : Run mtab d 153 [.ref 181, .int x, .int y, .int t, .int a, .int b, .int c, .int u, .int w] (shF L, f, g) R := by
  obtain ⟨d, rfl⟩ : ∃ e, d = e + 1 := ⟨d - 1, by omega⟩
  obtain ⟨y1, y2, y3, y4, y5, y6, y7⟩ := id z
  refine go_X11_add rfl ?_
  conv => whnf
  repeat' first
    | (simp only [y1, y2, y3, y4, y5, y6, y7, m_ui_ap, m_fil_ap, m_cpy_ap, Nat.reduceEqDiff, Nat.reduceLT, Nat.reduceLeDiff, eq_self, ↓reduceIte, false_and, and_false, true_and, and_true, and_self])
    | (refine ⟨by decide, ?_⟩ <;> conv => whnf)
    | (refine ⟨by unfold vp_in; decide, ?_⟩ <;> conv => whnf)
    | (refine ⟨fun c => ?_, fun c => ?_⟩ <;> first | exact absurd c (by decide) | exact absurd (by decide) c | (conv => whnf))
    | fail
  exact H _ _
set_option maxRecDepth 100000 in
set_option maxHeartbeats 4000000 in
theorem m_work {d L : Nat} {f : Nat → Nat → Int32} {g : Nat → Nat → Int64} {x a b c u w : Int32} {R : Option Value → mH → Prop} (hd : 4 ≤ d) (z : mz f) (H : ∀ v f' g', v2 ((x = 0 ∨ x = 2) ∧ toldw a b c u w) 0 (-1) v → R (some (.int v)) (shF L, f', g')) : Run mtab d 154 [.ref 181, .int x, .int a, .int b, .int c, .int u, .int w] (shF L, f, g) R := by
  obtain ⟨d, rfl⟩ : ∃ e, d = e + 1 := ⟨d - 1, by omega⟩
  obtain ⟨y1, y2, y3, y4, y5, y6, y7⟩ := id z
  refine go_X11_work rfl ?_
  conv => whnf
  repeat' first
    | (refine ⟨by decide, ?_⟩ <;> conv => whnf)
    | (refine ⟨by unfold vp_in; decide, ?_⟩ <;> conv => whnf)
    | (refine ⟨fun c => ?_, fun c => ?_⟩ <;> first | exact absurd c (by decide) | exact absurd (by decide) c | (conv => whnf))
    | (refine ct_mIsTold (by omega) (fun p => ?_) (fun p => ?_) <;> conv => whnf)
    | (refine ct_madd (by omega) z (fun f1 g1 => ?_) <;> conv => whnf)
    | fail
  all_goals first | exact H _ _ _ (v2_y (by grind)) | exact H _ _ _ (v2_n (by grind))
set_option maxRecDepth 100000 in
set_option maxHeartbeats 4000000 in
theorem m_mention {d L : Nat} {f : Nat → Nat → Int32} {g : Nat → Nat → Int64} {x1 x2 x3 x4 x5 x6 x7 x8 x9 : Int32} {R : Option Value → mH → Prop} (hd : 4 ≤ d) (z : mz f) (H : ∀ v f' g', v2 (mnw x1 x2 x3 x4 x5 x6 x8 x9) 0 (-1) v → R (some (.int v)) (shF L, f', g')) : Run mtab d 190 [.ref 181, .int x1, .int x2, .int x3, .int x4, .int x5, .int x6, .int x7, .int x8, .int x9] (shF L, f, g) R := by
  obtain ⟨d, rfl⟩ : ∃ e, d = e + 1 := ⟨d - 1, by omega⟩
  obtain ⟨y1, y2, y3, y4, y5, y6, y7⟩ := id z
  refine go_X11_mention rfl ?_
  conv => whnf
  repeat' first
    | (simp only [y1, y2, y3, y4, y5, y6, y7, m_ui_ap, m_fil_ap, m_cpy_ap, Nat.reduceEqDiff, Nat.reduceLT, Nat.reduceLeDiff, eq_self, ↓reduceIte, false_and, and_false, true_and, and_true, and_self])
    | (refine ⟨by decide, ?_⟩ <;> conv => whnf)
    | (refine ⟨by unfold vp_in; decide, ?_⟩ <;> conv => whnf)
    | (refine ⟨fun c => ?_, fun c => ?_⟩ <;> first | exact absurd c (by decide) | exact absurd (by decide) c | (conv => whnf))
    | (refine ct_in (by omega) rfl (lo := 0) rfl (hi := 2) rfl (fun p => ?_) (fun p => ?_) <;> conv => whnf)
    | (refine ct_in (by omega) rfl (lo := 0) rfl (hi := 15) rfl (fun p => ?_) (fun p => ?_) <;> conv => whnf)
    | (refine ct_in (by omega) rfl (lo := 1) rfl (hi := 6000) rfl (fun p => ?_) (fun p => ?_) <;> conv => whnf)
    | (refine ct_in (by omega) rfl (lo := 0) rfl (hi := 1) rfl (fun p => ?_) (fun p => ?_) <;> conv => whnf)
    | (refine ct_in (by omega) rfl (lo := 0) rfl (hi := 1073741823) rfl (fun p => ?_) (fun p => ?_) <;> conv => whnf)
    | (refine ct_in (by omega) rfl (lo := -1) rfl (hi := 19) rfl (fun p => ?_) (fun p => ?_) <;> conv => whnf)
    | (refine ct_mIsYear (by omega) (fun p => ?_) (fun p => ?_) <;> conv => whnf)
    | fail
  all_goals first | exact H _ _ _ (v2_y (by unfold mnw; grind)) | exact H _ _ _ (v2_n (by unfold mnw; grind))
theorem bvb (b : BitVec 64) (s : Nat) (hs : s = 0 ∨ s = 8 ∨ s = 16 ∨ s = 24 ∨ s = 32 ∨ s = 40 ∨ s = 48 ∨ s = 56) : b.sshiftRight s &&& 255#64 = (((b >>> s).setWidth 32) &&& 255#32).signExtend 64 := by
  apply BitVec.eq_of_toNat_eq
  have m1 : ∀ (x : BitVec 64), (x &&& 255#64).toNat = x.toNat % 256 := fun x => by
    rw [BitVec.toNat_and]
    exact Nat.and_two_pow_sub_one_eq_mod _ 8
  have m2 : ∀ (x : BitVec 32), (x &&& 255#32).toNat = x.toNat % 256 := fun x => by
    rw [BitVec.toNat_and]
    exact Nat.and_two_pow_sub_one_eq_mod _ 8
  have m3 : ∀ (x : BitVec 32), (x &&& 255#32).msb = false := fun x => by
    rw [BitVec.msb_eq_decide, m2]
    have : x.toNat % 256 < 256 := Nat.mod_lt _ (by decide)
    simp
    omega
  rw [m1, BitVec.signExtend_eq_setWidth_of_msb_false (m3 _), BitVec.toNat_setWidth, m2, BitVec.toNat_setWidth, BitVec.toNat_ushiftRight, BitVec.toNat_sshiftRight]
  have hb := b.isLt
  generalize b.toNat = n at hb ⊢
  rcases hs with rfl | rfl | rfl | rfl | rfl | rfl | rfl | rfl <;> simp only [Nat.shiftRight_eq_div_pow] <;> split <;> omega
theorem byte_s (w a : Int64) (u : UInt64) (s : Nat) (hs : s = 0 ∨ s = 8 ∨ s = 16 ∨ s = 24 ∨ s = 32 ∨ s = 40 ∨ s = 48 ∨ s = 56) (ha : (a.toBitVec.smod 64).toNat = s) (hu : (u.toBitVec % 64).toNat = s) : (w >>> a) &&& 255 = ((w.toUInt64 >>> u).toInt64.toInt32 &&& 255).toInt64 := by
  apply Int64.toBitVec_inj.mp
  have l : ((w >>> a) &&& 255).toBitVec = w.toBitVec.sshiftRight s &&& 255#64 := by
    rw [← ha]
    rfl
  have r : ((w.toUInt64 >>> u).toInt64.toInt32 &&& 255).toInt64.toBitVec = (((w.toBitVec >>> s).setWidth 32) &&& 255#32).signExtend 64 := by
    rw [Int32.toBitVec_toInt64]
    have e : (w.toUInt64 >>> u).toInt64.toInt32.toBitVec = (w.toBitVec >>> s).setWidth 32 := by
      rw [Int64.toBitVec_toInt32, BitVec.signExtend_eq_setWidth_of_le _ (by decide), ← hu]
      rfl
    have e2 : ((w.toUInt64 >>> u).toInt64.toInt32 &&& 255).toBitVec = (w.toUInt64 >>> u).toInt64.toInt32.toBitVec &&& 255#32 := rfl
    rw [e2, e]
  rw [l, r]
  exact bvb w.toBitVec s hs
theorem byte_eq (w : Int64) (j : Nat) (hj : j < 8) : (w >>> ((8 * nI j).toInt64 &&& 63)) &&& 255 = (bAt w (nI j)).toInt64 := by
  unfold bAt
  match j, hj with
  | 0, _ => exact byte_s w _ _ 0 (by decide) (by decide) (by decide)
  | 1, _ => exact byte_s w _ _ 8 (by decide) (by decide) (by decide)
  | 2, _ => exact byte_s w _ _ 16 (by decide) (by decide) (by decide)
  | 3, _ => exact byte_s w _ _ 24 (by decide) (by decide) (by decide)
  | 4, _ => exact byte_s w _ _ 32 (by decide) (by decide) (by decide)
  | 5, _ => exact byte_s w _ _ 40 (by decide) (by decide) (by decide)
  | 6, _ => exact byte_s w _ _ 48 (by decide) (by decide) (by decide)
  | 7, _ => exact byte_s w _ _ 56 (by decide) (by decide) (by decide)
set_option maxRecDepth 100000 in
theorem mt_loop2 {d L n : Nat} {w : Int64} {g : Nat → Nat → Int64} {R : Option Value → mH → Prop} (hn : n ≤ 8) (H : ∀ f' g', R (some (.int (nI n))) (shF L, f', g')) :
    ∀ (k m : Nat) (f : Nat → Nat → Int32), m + k = n → f 181 46 = nI m → WPe pg_X11_type none (Run mtab d) R (m_drop pg_X11_type 41) [some (.ref 181), some (.long w), none, some (.int (nI n)), some (.int (nI k + -1))] [] (shF L, f, g)
  | 0, m, f, hm, hf => by
    have e : m = n := by omega
    subst e
    refine at_X11_type ?_
    conv => whnf
    refine ⟨fun c => ?_, fun c => absurd (by decide) c⟩
    conv => whnf
    rw [hf]
    exact H _ _
  | k + 1, m, f, hm, hf => by
    have e : nI (k + 1) + -1 = nI k := by rw [← Int32.sub_eq_add_neg, nI_pred]
    rw [e]
    refine at_X11_type ?_
    conv => whnf
    refine ⟨fun c => absurd c (nI_pos (by omega)), fun c => ?_⟩
    conv => whnf
    refine ⟨by rw [hf]; exact vp_in_nI (by omega) (by decide), ?_⟩
    have ih := fun (v : Int32) => mt_loop2 (d := d) (L := L) (w := w) (g := g) hn H k (m + 1) (m_ui (m_ui f 217 (f 181 46).toNatClampNeg v) 181 46 (f 181 46 + 1)) (by omega) (by
      show f 181 46 + 1 = _
      rw [hf, nI_1])
    exact ih _
set_option maxRecDepth 100000 in
theorem mt_loop1 {d L n : Nat} {w : Int64} {f : Nat → Nat → Int32} {g : Nat → Nat → Int64} {R : Option Value → mH → Prop} (hd : 1 ≤ d) (h46 : f 181 46 = 0) (h1 : 1 ≤ n) (hn : n ≤ 8) (H1 : (∀ j, j < n → okb w j) → ∀ f' g', R (some (.int (nI n))) (shF L, f', g')) (H0 : ¬ (∀ j, j < n → okb w j) → ∀ f' g', R (some (.int (-1))) (shF L, f', g')) :
    ∀ (k : Nat), k ≤ n → (∀ j, k ≤ j → j < n → okb w j) → WPe pg_X11_type none (Run mtab d) R (m_drop pg_X11_type 12) [some (.ref 181), some (.long w), none, some (.int (nI n)), some (.int (nI k + -1))] [] (shF L, f, g)
  | 0, hk, hp => by
    refine at_X11_type ?_
    conv => whnf
    refine ⟨fun c => ?_, fun c => absurd (by decide) c⟩
    conv => whnf
    rw [h46]
    have e : (0 : Int32) + nI n = nI n := Int32.zero_add _
    refine ⟨fun c => ?_, fun c => absurd (by
      show (0 : Int32) + nI n ≤ 50
      rw [e]
      exact nI_le (b := 50) (by omega) (by decide)) c⟩
    conv => whnf
    have e2 : nI n - 1 = nI n + -1 := Int32.sub_eq_add_neg ..
    have := mt_loop2 (d := d) (L := L) (w := w) (g := g) hn (H1 (fun j hj => hp j (Nat.zero_le j) hj)) n 0 f (by omega) (by rw [h46]; rfl)
    rw [← e2] at this
    exact this
  | k + 1, hk, hp => by
    have e : nI (k + 1) + -1 = nI k := by rw [← Int32.sub_eq_add_neg, nI_pred]
    rw [e]
    refine at_X11_type ?_
    conv => whnf
    refine ⟨fun c => absurd c (nI_pos (by omega)), fun c => ?_⟩
    conv => whnf
    refine ct_in hd (byte_eq w k (by omega)) (lo := 32) rfl (hi := 126) rfl (fun p => ?_) (fun p => ?_)
    · conv => whnf
      refine ⟨fun _ => ?_, fun c => absurd c (by decide)⟩
      conv => whnf
      exact mt_loop1 hd h46 h1 hn H1 H0 k (by omega) (fun j hj hj2 => by
        by_cases e : j = k
        · subst e
          exact p
        · exact hp j (by omega) hj2)
    · conv => whnf
      refine ⟨fun c => absurd (by decide) c, fun _ => ?_⟩
      conv => whnf
      exact H0 (fun q => p (q k (by omega))) _ _
set_option maxRecDepth 100000 in
theorem m_type {d L : Nat} {x : Int32} {w : Int64} {f : Nat → Nat → Int32} {g : Nat → Nat → Int64} {R : Option Value → mH → Prop} (hd : 3 ≤ d) (z : mz f) (H : ∀ v f' g', v2 (tyw w x) x (-1) v → R (some (.int v)) (shF L, f', g')) : Run mtab d 215 [.ref 181, .long w, .int x] (shF L, f, g) R := by
  obtain ⟨d, rfl⟩ : ∃ e, d = e + 1 := ⟨d - 1, by omega⟩
  obtain ⟨y1, y2, y3, y4, y5, y6, y7⟩ := id z
  refine go_X11_type rfl ?_
  conv => whnf
  refine ct_in (by omega) rfl (lo := 1) rfl (hi := 8) rfl (fun p => ?_) (fun p => ?_)
  · obtain ⟨n, h1, h8, rfl⟩ := inr_18 p
    conv => whnf
    refine ⟨fun _ => ?_, fun c => absurd c (by decide)⟩
    conv => whnf
    have e2 : nI n - 1 = nI n + -1 := Int32.sub_eq_add_neg ..
    have := mt_loop1 (d := d) (L := L) (w := w) (g := g) (R := R) (by omega) y5 h1 h8 (fun q f' g' => H _ f' g' (v2_y ⟨p, fun j hj => q j (by rw [nI_clamp (by omega)] at hj; exact hj)⟩)) (fun q f' g' => H _ f' g' (v2_n (fun t => q (fun j hj => t.2 j (by rw [nI_clamp (by omega)]; exact hj))))) n (Nat.le_refl n) (fun j hj hj2 => absurd hj (by omega))
    rw [← e2] at this
    exact this
  · conv => whnf
    refine ⟨fun c => absurd (by decide) c, fun _ => ?_⟩
    conv => whnf
    exact H _ _ _ (v2_n (fun t => p t.1))
