/-! part f0: what a text says depends on its bytes alone, and is one (pure) -/
theorem zy_fr_c {B B' : Nat → Int} {len : Nat} (h : ∀ j, j < len → B j = B' j) (p : Nat) : zy_fr B len p = zy_fr B' len p := zy_r_c h
theorem zy_so_c {B B' : Nat → Int} {len : Nat} (h : ∀ j, j < len → B j = B' j) (p : Nat) : zy_so B len p = zy_so B' len p := by
  unfold zy_so
  rw [zy_fr_c h p]
  by_cases hp : zy_fr B' len p < len
  · rw [if_pos hp, if_pos hp, h _ hp]
  · rw [if_neg hp, if_neg hp]
theorem zy_to_c {B B' : Nat → Int} {len : Nat} (h : ∀ j, j < len → B j = B' j) (p : Nat) : zy_to B len p = zy_to B' len p := by
  unfold zy_to
  rw [zy_so_c h p, zy_fr_c h p, zy_r_c (f := zy_sm) (p := zy_fr B' len p) h, zy_r_c (f := zy_dg) (p := zy_fr B' len p) h]
theorem zy_ww_c {B B' : Nat → Int} {q : Nat} : ∀ k, (∀ i, i < k → B (q + i) = B' (q + i)) → zy_ww B q k = zy_ww B' q k
  | 0, _ => rfl
  | k + 1, h => by
    show (if k < 10 then zy_ww B q k * 32 + B (q + k) - 96 else -1) = if k < 10 then zy_ww B' q k * 32 + B' (q + k) - 96 else -1
    rw [zy_ww_c k (fun i hi => h i (by omega)), h k (by omega)]
theorem zy_dw_c {B B' : Nat → Int} {q : Nat} : ∀ k, (∀ i, i < k → B (q + i) = B' (q + i)) → zy_dw B q k = zy_dw B' q k
  | 0, _ => rfl
  | k + 1, h => by
    show (if 1000000 < zy_dw B q k then zy_dw B q k else zy_dw B q k * 10 + B (q + k) - 48) = if 1000000 < zy_dw B' q k then zy_dw B' q k else zy_dw B' q k * 10 + B' (q + k) - 48
    rw [zy_dw_c k (fun i hi => h i (by omega)), h k (by omega)]
theorem zy_so_hi {B : Nat → Int} {len p : Nat} (h : ¬ p ≤ len) : zy_so B len p = 0 := by
  unfold zy_so
  have h1 := (zy_r_le (f := zy_bl) (B := B) (len := len) (p := p)).1
  exact if_neg (fun h2 => by
    have h2 : zy_r zy_bl B len p < len := h2
    omega)
theorem zy_wo_0 {B : Nat → Int} {len p : Nat} (h : zy_so B len p = 0) : zy_wo B len p = 0 := by
  unfold zy_wo
  rw [h]
  rfl
theorem zy_wo_c {B B' : Nat → Int} {len : Nat} (h : ∀ j, j < len → B j = B' j) (p : Nat) : zy_wo B len p = zy_wo B' len p := by
  by_cases hp : p ≤ len
  · have ht := zy_to_le (B := B') hp
    have hw : ∀ i, i < zy_to B' len p - zy_fr B' len p → B (zy_fr B' len p + i) = B' (zy_fr B' len p + i) := fun i hi => h _ (by omega)
    unfold zy_wo
    rw [zy_so_c h p, zy_to_c h p, zy_fr_c h p, zy_ww_c _ hw, zy_dw_c _ hw]
    by_cases h3 : zy_so B' len p = 3
    · have h4 := ht.2.2 (by omega)
      rw [h (zy_fr B' len p) (by omega)]
    · rw [if_neg h3, if_neg h3]
  · rw [zy_wo_0 (zy_so_hi hp), zy_wo_0 (zy_so_hi hp)]
theorem ylw_c {B B' : Nat → Int} {len : Nat} (h : ∀ j, j < len → B j = B' j) (ord : Bool) (p : Nat) : ylw ord B len p = ylw ord B' len p := by
  unfold ylw
  rw [zy_so_c h p, zy_wo_c h p]
theorem ylf_c {B B' : Nat → Int} {len : Nat} (h : ∀ j, j < len → B j = B' j) (ord : Bool) (p : Nat) : ylf ord B len p = ylf ord B' len p := by
  unfold ylf
  rw [zy_to_c h p, ylw_c h ord p, zy_so_c h p, zy_wo_c h p, zy_so_c h (zy_to B' len p), zy_wo_c h (zy_to B' len p), zy_to_c h (zy_to B' len p)]
theorem yt_cl_det {so : Nat → Nat} {wo : Nat → Int} {nx : Nat → Nat} {lf : Nat → Nat ⊕ (Nat × Int × Int)} {p n : Nat} {s s' : Nat ⊕ (Nat × Nat × yK)} (h : yt_cl so wo nx lf p n s) (h' : yt_cl so wo nx lf p n s') : s = s' := by
  unfold yt_cl at h h'
  by_cases hk : yt_hl so wo p = -1
  · rw [if_pos hk] at h h'
    rw [h, h']
  · rw [if_neg hk] at h h'
    obtain ⟨u, h1, h2⟩ := h
    obtain ⟨u', h1', h2'⟩ := h'
    have eu : u = u' := by
      by_cases h4 : yt_hl so wo p = 4
      · rw [if_pos h4] at h1 h1'
        rw [h1, h1']
      · rw [if_neg h4] at h1 h1'
        exact yt_su_det h1 h1'
    subst eu
    rcases h2 with ⟨q, a1, a2⟩ | ⟨p1, n1, x, a1, v, v1, v2⟩ <;> rcases h2' with ⟨q', a1', a2'⟩ | ⟨p1', n1', x', a1', v', v1', v2'⟩
    · rw [a1] at a1'
      cases a1'
      rw [a2, a2']
    · rw [a1] at a1'
      cases a1'
    · rw [a1] at a1'
      cases a1'
    · rw [a1] at a1'
      cases a1'
      have ev := yt_if_det v1 v1'
      subst ev
      rcases v2 with ⟨q, g1, g2⟩ | ⟨p2, n2, y, g1, g2⟩ <;> rcases v2' with ⟨q', g1', g2'⟩ | ⟨p2', n2', y', g1', g2'⟩
      · rw [g1] at g1'
        cases g1'
        rw [g2, g2']
      · rw [g1] at g1'
        cases g1'
      · rw [g1] at g1'
        cases g1'
      · rw [g1] at g1'
        cases g1'
        rw [g2, g2']
theorem yt_ti_det {so : Nat → Nat} {wo : Nat → Int} {nx : Nat → Nat} {p : Nat} {s s' : Nat ⊕ (Nat × Int)} (h : yt_ti so wo nx p s) (h' : yt_ti so wo nx p s') : s = s' := by
  unfold yt_ti at h h'
  by_cases h1 : yr_w so wo 21279923 p = true
  · rw [if_pos h1] at h h'
    by_cases h2 : yt_nu so wo 1 20 (nx p) = true
    · rw [if_pos h2] at h h'
      rw [h, h']
    · rw [if_neg h2] at h h'
      rw [h, h']
  · rw [if_neg h1] at h h'
    rw [h, h']
theorem yt_co_det {so : Nat → Nat} {wo : Nat → Int} {nx : Nat → Nat} {lf : Nat → Nat ⊕ (Nat × Int × Int)} {p n : Nat} {s s' : Nat ⊕ (Nat × Nat × yK)} (h : yt_co so wo nx lf p n s) (h' : yt_co so wo nx lf p n s') : s = s' := by
  unfold yt_co at h h'
  by_cases hk : yt_ho so wo p = -1
  · rw [if_pos hk] at h h'
    rw [h, h']
  · rw [if_neg hk] at h h'
    obtain ⟨u, h1, h2⟩ := h
    obtain ⟨u', h1', h2'⟩ := h'
    have eu : u = u' := by
      by_cases h4 : yt_ho so wo p = 2
      · rw [if_pos h4] at h1 h1'
        rw [h1, h1']
      · rw [if_neg h4] at h1 h1'
        exact yt_su_det h1 h1'
    subst eu
    rcases h2 with ⟨q, a1, a2⟩ | ⟨p1, n1, x, a1, v, v1, v2⟩ <;> rcases h2' with ⟨q', a1', a2'⟩ | ⟨p1', n1', x', a1', v', v1', v2'⟩
    · rw [a1] at a1'
      cases a1'
      rw [a2, a2']
    · rw [a1] at a1'
      cases a1'
    · rw [a1] at a1'
      cases a1'
    · rw [a1] at a1'
      cases a1'
      have ev : v = v' := by
        by_cases h4 : yt_ho so wo p = 1
        · rw [if_pos h4] at v1 v1'
          by_cases h5 : yr_w so wo 89 p1 = true
          · rw [if_pos h5] at v1 v1'
            exact yt_su_det v1 v1'
          · rw [if_neg h5] at v1 v1'
            rw [v1, v1']
        · rw [if_neg h4] at v1 v1'
          rw [v1, v1']
      subst ev
      rcases v2 with ⟨q, g1, g2⟩ | ⟨p2, n2, y, g1, t, t1, t2⟩ <;> rcases v2' with ⟨q', g1', g2'⟩ | ⟨p2', n2', y', g1', t', t1', t2'⟩
      · rw [g1] at g1'
        cases g1'
        rw [g2, g2']
      · rw [g1] at g1'
        cases g1'
      · rw [g1] at g1'
        cases g1'
      · rw [g1] at g1'
        cases g1'
        have et := yt_ti_det t1 t1'
        subst et
        rcases t2 with ⟨q, b1, b2⟩ | ⟨p3, m, b1, z, z1, z2⟩ <;> rcases t2' with ⟨q', b1', b2'⟩ | ⟨p3', m', b1', z', z1', z2'⟩
        · rw [b1] at b1'
          cases b1'
          rw [b2, b2']
        · rw [b1] at b1'
          cases b1'
        · rw [b1] at b1'
          cases b1'
        · rw [b1] at b1'
          cases b1'
          have ez := yt_if_det z1 z1'
          subst ez
          rcases z2 with ⟨q, c1, c2⟩ | ⟨p4, n4, e, c1, c2⟩ <;> rcases z2' with ⟨q', c1', c2'⟩ | ⟨p4', n4', e', c1', c2'⟩
          · rw [c1] at c1'
            cases c1'
            rw [c2, c2']
          · rw [c1] at c1'
            cases c1'
          · rw [c1] at c1'
            cases c1'
          · rw [c1] at c1'
            cases c1'
            rw [c2, c2']
theorem yT_det {so : Nat → Nat} {wo : Nat → Int} {nx : Nat → Nat} {cl : Nat → Nat → Nat ⊕ (Nat × Nat × yK) → Prop} (hc : ∀ (p n : Nat) (t t' : Nat ⊕ (Nat × Nat × yK)), cl p n t → cl p n t' → t = t') : ∀ (r p n : Nat) (s s' : Nat ⊕ List yK), yT so wo nx cl r p n s → yT so wo nx cl r p n s' → s = s'
  | 0, p, n, s, s', h, h' => by
    have h : s = Sum.inl p := h
    have h' : s' = Sum.inl p := h'
    rw [h, h']
  | r + 1, p, n, s, s', h, h' => by
    obtain ⟨t, h1, h2⟩ := h
    obtain ⟨t', h1', h2'⟩ := h'
    have et := hc _ _ _ _ h1 h1'
    subst et
    rcases h2 with ⟨q, e1, e2⟩ | ⟨p1, n1, c, e1, e2⟩ <;> rcases h2' with ⟨q', e1', e2'⟩ | ⟨p1', n1', c', e1', e2'⟩
    · rw [e1] at e1'
      cases e1'
      rw [e2, e2']
    · rw [e1] at e1'
      cases e1'
    · rw [e1] at e1'
      cases e1'
    · rw [e1] at e1'
      cases e1'
      by_cases h0 : so p1 = 0
      · rw [if_pos h0] at e2 e2'
        rw [e2, e2']
      · rw [if_neg h0] at e2 e2'
        by_cases h9 : yr_s so wo 59 p1 = true
        · rw [if_pos h9] at e2 e2'
          obtain ⟨v, u1, u2⟩ := e2
          obtain ⟨v', u1', u2'⟩ := e2'
          have ev := yT_det hc r _ _ _ _ u1 u1'
          subst ev
          rcases u2 with ⟨q, g1, g2⟩ | ⟨L, g1, g2⟩ <;> rcases u2' with ⟨q', g1', g2'⟩ | ⟨L', g1', g2'⟩
          · rw [g1] at g1'
            cases g1'
            rw [g2, g2']
          · rw [g1] at g1'
            cases g1'
          · rw [g1] at g1'
            cases g1'
          · rw [g1] at g1'
            cases g1'
            rw [g2, g2']
        · rw [if_neg h9] at e2 e2'
          rw [e2, e2']