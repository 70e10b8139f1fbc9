/-! part k5: the class over logical cells: image -/
section ZK5
variable {p : Program} {l : Launch} {e : Env} {R : Room} {s : State} {m : MethodId} {args : Array Value} {below : List Frame} {meth : Method} {c : Code} {Q : State → Prop}
variable {cc : ByteArray} {w : zk_W} {u : zk_M} {Ts : List Jvm.Cond} {own : String}
variable {xs : List Nat} {pc : Nat} {L : List (Nat × Nat × Int)} {S : List (Nat × Int)} {P : Nat → Option Nat} {G : Nat → Nat → Int} {cu su : Nat}
theorem zpn_aald (hx : p.tables.exec = Jvm.exec) (hb : c.code = cc) (hwξ : w.1 = zt_types) {a t j len x : Nat} {i v lo hi : Int} (hdgξ : decode cc pc = .ok (.aaload, 1)) (hTξ : zt_types[t]? = some (3, len, len, [(2, x, lo, hi)])) (hpξ : P a = some t) (hi' : i = (j : Int)) (hjξ : j < len) (hvξ : G a (2000 + j) = v) (kk : zk_ok P (2, x, lo, hi) v → zp_Jn cu su p l e R s m args below meth c Q w u xs (pc + 1) L ((2, v) :: S) P G) : zp_Jn cu su p l e R s m args below meth c Q w u xs pc L ((0, i) :: (2, (a : Int)) :: S) P G := by
  intro F H locs ls hFξ hIξ hLξ hkLξ hkSξ
  rw [← hwξ] at hTξ
  obtain ⟨cA, n, f, o1, o2, o3, o4, o5, o6, o7⟩ := zp_rarr hIξ.1 hpξ hTξ rfl
  have o2 : len ≤ n := o2
  obtain ⟨z, z1, z2⟩ := o5 j (by omega)
  have z1 : zk_ok P (2, x, lo, hi) z := z1
  have z2 : va_rf (f j) = zk_mk 2 z := z2
  obtain ⟨k1ξ, k2⟩ := zp_tl hkSξ
  obtain ⟨i1, i2⟩ := zp_ix (n := n) hi' (by omega) k1ξ.2.1
  have e9ξ : zk_rd (.inl (cA, n, .inr (.inr (.inr (.inr f))))) (2000 + j) = some (va_rf (f j)) := by
    unfold zk_rd zk_av
    dsimp only
    rw [if_neg (by omega), if_pos ⟨by omega, by omega⟩, Nat.add_sub_cancel_left]
  have ez : v = z := by
    rw [← hvξ, ← hFξ]
    unfold zp_n
    rw [o1, e9ξ, z2]
    exact zp_num_mk z1 (show _ ≤ 2 from Nat.le_of_ble_eq_true rfl)
  subst ez
  show W p l e R s m args below meth c H locs cu su Q (F0 m pc ls (.int (Int32.ofInt i) :: zk_mk 2 (a : Int) :: S.map (fun q => zk_mk q.1 q.2)))
  rw [zp_ref]
  refine zw_aald hx hb o6 o4 i1 hdgξ ?_
  rw [i2, z2]
  exact kk z1 F H locs ls hFξ hIξ hLξ hkLξ (List.forall_mem_cons.mpr ⟨zp_ok_k z1 (show _ ≤ 2 from Nat.le_of_ble_eq_true rfl), (zp_tl k2).2⟩)
theorem zpn_nnr (hx : p.tables.exec = Jvm.exec) (hb : c.code = cc) {off : Int} {tgt r : Nat} (hdgξ : decode cc pc = .ok (.ifnonnull off, 3)) (htξ : (pc : Int) + off = (tgt : Int)) (kk : zp_Jn cu su p l e R s m args below meth c Q w u xs tgt L S P G) : zp_Jn cu su p l e R s m args below meth c Q w u xs pc L ((2, (r : Int)) :: S) P G := by
  intro F H locs ls hFξ hIξ hLξ hkLξ hkSξ
  show W p l e R s m args below meth c H locs cu su Q (F0 m pc ls (zk_mk 2 (r : Int) :: S.map (fun q => zk_mk q.1 q.2)))
  rw [zp_ref]
  exact lv_ifnonnull hx hb hdgξ htξ (kk F H locs ls hFξ hIξ hLξ hkLξ (zp_tl hkSξ).2)
theorem zpn_nnn (hx : p.tables.exec = Jvm.exec) (hb : c.code = cc) {off n : Int} (hnξ : n < 0) (hdgξ : decode cc pc = .ok (.ifnonnull off, 3)) (kk : zp_Jn cu su p l e R s m args below meth c Q w u xs (pc + 3) L S P G) : zp_Jn cu su p l e R s m args below meth c Q w u xs pc L ((2, n) :: S) P G := by
  intro F H locs ls hFξ hIξ hLξ hkLξ hkSξ
  show W p l e R s m args below meth c H locs cu su Q (F0 m pc ls (zk_mk 2 n :: S.map (fun q => zk_mk q.1 q.2)))
  rw [show zk_mk 2 n = Value.null from if_pos hnξ]
  exact lv_ifnonnullN hx hb hdgξ (kk F H locs ls hFξ hIξ hLξ hkLξ (zp_tl hkSξ).2)
end ZK5
/-- the same, with no effects -/
noncomputable def zp_K0 (K : zk_K) : zk_K := (K.1, K.2.1, K.2.2.1, K.2.2.2.1, zk_Kk K, zk_Kc K, zk_Kp K, zk_Ka K, [], zk_Kr K)
theorem zk_ef_tr {eff : List (Nat × Nat × Nat)} {ps : List Int} {P0 : Nat → Option Nat} {F0 F F' : Nat → va_E} (h : zk_ef eff ps P0 F0 F) (h2ξ : zk_ef [] ps P0 F F') : zk_ef eff ps P0 F0 F' := fun a t haξ => by
  refine (h a t haξ).trans (zk_same.mono (fun k hkξ => ?_) (h2ξ a t haξ))
  obtain ⟨q, hqξ, -⟩ := hkξ
  exact absurd hqξ List.not_mem_nil
section ZK5A
variable {p : Program} {l : Launch} {e : Env} {R : Room} {s : State} {m : MethodId} {args : Array Value} {below : List Frame} {meth : Method} {c : Code} {Q : State → Prop}
variable {cc : ByteArray} {w : zk_W} {u : zk_M} {Ts : List Jvm.Cond} {own : String}
theorem zh_ctx9 {lk : List zk_L} {lc : List (Nat × Nat × Nat)} {K KC : zk_K} {mi : Nat} (h : zk_ctx l R s m args meth c w u zt_TB K.1.cls zt_TB zt_mn (zt_types, lk, zt_dv, [], [], lc, K)) (hu6ξ : u.2.2.2.2.2.1 = K.2.2.1) (hKCξ : zh_K l w KC) (hmiξ : KC.1 = zt_mn mi) (G1 : Nat → va_E) : ∀ N' ca, zk_ctx l R s m args meth c w (u.1, G1, u.2.2.1, zk_Ke (zp_K0 K), N', (zp_K0 K).2.2.1, u.2.2.2.2.2.2) zt_TB (zp_K0 K).1.cls zt_TB zt_mn (zt_types, lk, zt_dv, [KC], [mi], lc, (zp_K0 K).1, (zp_K0 K).2.1, (zp_K0 K).2.2.1, (zp_K0 K).2.2.2.1, zk_Kk (zp_K0 K), zk_Kc (zp_K0 K), zk_Kp (zp_K0 K), ca, zk_Ke (zp_K0 K), zk_Kr (zp_K0 K)) := by
  intro N' ca
  obtain ⟨⟨e1, e2, e3⟩, e4, e5, e6, e7, e8, e9ξ, e10, e11, e12, e13, e14, e15, e16, e17, e18, e19, y1, y2, y3⟩ := h
  refine ⟨⟨e1.trans hu6ξ, rfl, rfl⟩, e4, e5, e6, e7, e8, e9ξ, e10, e11, e12, e13, e14, fun j K' hjξ => ?_, fun j K' k hjξ hkξ => ?_, e17, e18, e19, y1, y2, y3⟩
  · match j, hjξ with
    | 0, hjξ =>
      cases hjξ
      exact hKCξ
    | j + 1, hjξ => simp at hjξ
  · match j, hjξ, hkξ with
    | 0, hjξ, hkξ =>
      cases hjξ
      cases hkξ
      exact hmiξ
    | j + 1, hjξ, _ => simp at hjξ
end ZK5A
/-- a new town's cells, by names below 100 -/
noncomputable def zTwA (cp : Nat) (b : Nat → Nat) (o : Nat) : Nat := if o = 1 then cp else b o
/-- cells of a new town beside those that are known -/
theorem zM_two {A : Nat → Nat} {Y : List (Nat × Nat)} {F : List (Nat × Nat × Nat)} {M : Nat → Nat → Int} {P0 P : Nat → Option Nat} {G : Nat → Nat → Int} (h : zM A Y F M P G) (hYFξ : zMc Y F) (holdξ : ∀ q ∈ Y, P0 (A q.1) = some q.2) {cp : Nat} {b : Nat → Nat} (n1ξ : P0 cp = none ∧ P cp = some 93) (n2ξ : ∀ q ∈ zTW, G cp q.1 = (b q.2.1 : Int) ∧ P (b q.2.1) = some q.2.2 ∧ P0 (b q.2.1) = none) (n3 : ∀ i : Nat, i < 3 → G (b 2) i = (b (50 + i) : Int) ∧ P (b (50 + i)) = some (17 + i) ∧ P0 (b (50 + i)) = none) : zM (fun o => if 100 ≤ o then A (o - 100) else zTwA cp b o) zYz zFz (fun o k => if 100 ≤ o then M (o - 100) k else G (zTwA cp b o) k) P G := by
  have hnξ : ∀ q ∈ zYz, q.1 < 100 → P (zTwA cp b q.1) = some q.2 ∧ P0 (zTwA cp b q.1) = none := by
    intro q hqξ hlξ
    have h1ξ : ∀ q ∈ zYz, q.1 < 100 → q = (1, 93) ∨ zTW.any (fun r => r.2.1 == q.1 && (r.2.2 == q.2 && q.1 != 1)) = true ∨ (50 ≤ q.1 ∧ q.1 < 53 ∧ q.2 + 33 = q.1) := by decide
    rcases h1ξ q hqξ hlξ with rfl | h2ξ | ⟨h2ξ, h3ξ, h4ξ⟩
    · exact ⟨n1ξ.2, n1ξ.1⟩
    · obtain ⟨r, hrξ, e⟩ := List.any_eq_true.mp h2ξ
      simp only [Bool.and_eq_true, beq_iff_eq, bne_iff_ne] at e
      obtain ⟨e1, e2, e3⟩ := e
      unfold zTwA
      rw [if_neg e3, ← e1, ← e2]
      exact (n2ξ r hrξ).2
    · unfold zTwA
      rw [if_neg (by omega)]
      have h5ξ := (n3 (q.1 - 50) (by omega)).2
      rw [show 50 + (q.1 - 50) = q.1 by omega, show 17 + (q.1 - 50) = q.2 by omega] at h5ξ
      exact h5ξ
  have hoξ : ∀ q ∈ zYz, 100 ≤ q.1 → (q.1 - 100, q.2) ∈ Y := by
    intro q hqξ hlξ
    have h1ξ : ∀ q ∈ zYz, 100 ≤ q.1 → (q.1 - 100, q.2) ∈ zYc := by decide
    exact hYFξ.1 _ (h1ξ q hqξ hlξ)
  refine ⟨fun q hqξ => ?_, fun r hrξ => ?_, fun q hqξ r hrξ e => ?_, fun r hrξ => ?_⟩
  · dsimp only
    by_cases hlξ : 100 ≤ q.1
    · rw [if_pos hlξ]
      have h1ξ := h.1 _ (hoξ q hqξ hlξ)
      refine ⟨h1ξ.1, fun k => ?_⟩
      rw [if_pos hlξ]
      exact h1ξ.2 k
    · rw [if_neg hlξ]
      refine ⟨(hnξ q hqξ (by omega)).1, fun k => ?_⟩
      rw [if_neg hlξ]
  · dsimp only
    have h1ξ : ∀ r ∈ zFz, (100 ≤ r.1 ∧ 100 ≤ r.2.2 ∧ (r.1 - 100, r.2.1, r.2.2 - 100) ∈ zFc) ∨ (r.1 < 100 ∧ r.2.2 < 100 ∧ ((r.1 = 1 ∧ r.2.2 ≠ 1 ∧ zTW.any (fun t => t.1 == r.2.1 && t.2.1 == r.2.2) = true) ∨ (r.1 = 2 ∧ r.2.2 = 50 + r.2.1 ∧ r.2.1 < 3))) := by decide
    rcases h1ξ r hrξ with ⟨e1, e2, e3⟩ | ⟨e1, e2, e3⟩
    · rw [if_pos e1, if_pos e2]
      exact h.2.1 _ (hYFξ.2.1 _ e3)
    · rw [if_neg (by omega), if_neg (by omega)]
      rcases e3 with ⟨e4, e5, e6⟩ | ⟨e4, e5, e6⟩
      · obtain ⟨t, htξ, e⟩ := List.any_eq_true.mp e6
        simp only [Bool.and_eq_true, beq_iff_eq] at e
        unfold zTwA
        rw [if_pos e4, if_neg e5, ← e.1, ← e.2]
        exact (n2ξ t htξ).1
      · unfold zTwA
        rw [if_neg (by omega), if_neg (by omega), e4, e5]
        exact (n3 _ e6).1
  · dsimp only at e
    by_cases hlξ : 100 ≤ q.1
    · by_cases hl2ξ : 100 ≤ r.1
      · rw [if_pos hlξ, if_pos hl2ξ] at e
        have := h.2.2.1 _ (hoξ q hqξ hlξ) _ (hoξ r hrξ hl2ξ) e
        dsimp only at this
        omega
      · rw [if_pos hlξ, if_neg hl2ξ] at e
        have h1ξ := holdξ _ (hoξ q hqξ hlξ)
        dsimp only at h1ξ
        rw [e, (hnξ r hrξ (by omega)).2] at h1ξ
        cases h1ξ
    · by_cases hl2ξ : 100 ≤ r.1
      · rw [if_neg hlξ, if_pos hl2ξ] at e
        have h1ξ := holdξ _ (hoξ r hrξ hl2ξ)
        dsimp only at h1ξ
        rw [← e, (hnξ q hqξ (by omega)).2] at h1ξ
        cases h1ξ
      · rw [if_neg hlξ, if_neg hl2ξ] at e
        have h1ξ := (hnξ q hqξ (by omega)).1
        rw [e, (hnξ r hrξ (by omega)).1] at h1ξ
        have h2ξ : ∀ q ∈ zYz, ∀ r ∈ zYz, q.1 < 100 → r.1 < 100 → r.2 = q.2 → q.1 = r.1 := by decide
        exact h2ξ q hqξ r hrξ (by omega) (by omega) (Option.some.inj h1ξ)
  · have h1ξ : ∀ r ∈ zFz, r.2.1 < 1000 := by decide
    exact h1ξ r hrξ
theorem zM_fr {A : Nat → Nat} {Y : List (Nat × Nat)} {F : List (Nat × Nat × Nat)} {M : Nat → Nat → Int} {P P' : Nat → Option Nat} {G G' : Nat → Nat → Int} (h : zM A Y F M P G) (hextξ : ∀ a t, P a = some t → P' a = some t) (hGξ : ∀ q ∈ Y, ∀ k, G' (A q.1) k = G (A q.1) k) : zM A Y F M P' G' := ⟨fun q hqξ => ⟨hextξ _ _ (h.1 q hqξ).1, fun k => (hGξ q hqξ k).trans ((h.1 q hqξ).2 k)⟩, h.2.1, h.2.2.1, h.2.2.2⟩
/-- the new town's cells stand beside the known ones -/
theorem zTd_two {A : Nat → Nat} {P0 : Nat → Option Nat} {cp : Nat} {b : Nat → Nat} {a t : Nat} (haξ : P0 a = some t) (n1ξ : P0 cp = none) (n2ξ : ∀ q ∈ zTW, P0 (b q.2.1) = none) (n3 : ∀ i : Nat, i < 3 → P0 (b (50 + i)) = none) : zTd (fun o => if 100 ≤ o then A (o - 100) else zTwA cp b o) a := by
  intro o hoξ e
  have h1ξ : ∀ o ∈ ([1, 2, 30, 31, 32, 33, 34, 35, 36, 37, 38, 39, 40, 50, 51, 52] : List Nat), o < 100 ∧ (o = 1 ∨ (o ≠ 1 ∧ zTW.any (fun r => r.2.1 == o) = true) ∨ (50 ≤ o ∧ o < 53)) := by decide
  obtain ⟨h2ξ, h3ξ⟩ := h1ξ o hoξ
  dsimp only at e
  rw [if_neg (by omega)] at e
  have h4ξ : P0 (zTwA cp b o) = none := by
    unfold zTwA
    rcases h3ξ with rfl | ⟨h5ξ, h6ξ⟩ | ⟨h5ξ, h6ξ⟩
    · exact n1ξ
    · obtain ⟨r, hrξ, e9ξ⟩ := List.any_eq_true.mp h6ξ
      rw [beq_iff_eq] at e9ξ
      rw [if_neg h5ξ, ← e9ξ]
      exact n2ξ r hrξ
    · rw [if_neg (by omega)]
      have := n3 (o - 50) (by omega)
      rw [show 50 + (o - 50) = o by omega] at this
      exact this
  rw [← e, haξ] at h4ξ
  cases h4ξ
theorem zq_all2_2 {α β : Type} {f : α → β → Prop} {a b : α} {l : List β} (h : zk_all2 f [a, b] l) : ∃ x y, l = [x, y] ∧ f a x ∧ f b y := by
  match l, h with
  | [x, y], h => exact ⟨x, y, rfl, h.1, h.2.1⟩
theorem zTW_55 : ∀ q ∈ zTW, q.2.2 ≠ 55 := by decide
noncomputable def zR_i1 : zk_An := (30, ([(0, 0, 0, 0), (1, 0, 0, 0), (2, 0, (-1), (-1)), (2, 12, 0, 0), (0, 0, 0, 1), (3, 0, 0, 0)], [], [], [(5, 9, [(2, 0), (0, 0), (2, 0), (0, 0), (2, 0), (2, 0), (2, 0), (2, 0), (2, 0), (0, 0), (2, 0), (2, 0), (2, 0), (2, 0), (0, 0), (0, 0), (0, 0), (0, 0), (2, 0)])], [(0, (3, 0)), (1, (4, 0))], [(0, 3), (1, 4)], [5]), [(5, 0), (5, 0)], 1, 19, ((-1), []))
noncomputable def zO_i : zk_O := (33, ([(0, 0, 0, 0), (1, 0, 0, 0), (2, 0, (-1), (-1)), (2, 12, 0, 0), (0, 0, 0, 1), (2, 93, 0, 0)], [], [], [], [(0, (3, 0)), (1, (4, 0))], [(0, 3), (1, 4)], [5]), [(5, 0)], 16, 198)
noncomputable def zf_an2 (V : Nat → Nat → Int) (p1ξ : Int) : Int × (Nat → Nat → Int) := (p1ξ, (zp_set V 0 18 0))
noncomputable def zK_an2 : zk_K := (zt_mn 17, prog_1_method_51_code, 2, (Option.some Jvm.ClassFile.FieldType.int), 1, 11, [(2, 12, 0, 0), (0, 0, (-2147483648), 2147483647)], [(some (0, 0, (-2147483648), 2147483647), [])], [(12, 18, 0)], (0, 0, 0, 0))
noncomputable def zφ_an2 (A : Nat → Nat) (Y : List (Nat × Nat)) (F : List (Nat × Nat × Nat)) (V : Nat → Nat → Int) : (Nat → Option Nat) → (Nat → Nat → Int) → List Int → Prop := fun P G ps => zMVc A Y F V P G ∧ ps.getD 0 0 = (A 0 : Int) ∧ zMc Y F
noncomputable def zψ_an2 (A : Nat → Nat) (Y : List (Nat × Nat)) (F : List (Nat × Nat × Nat)) (V : Nat → Nat → Int) : (Nat → Option Nat) → (Nat → Nat → Int) → List Int → (Nat → Option Nat) → (Nat → Nat → Int) → Int → Prop := fun P G ps P' G' rn => P' = P ∧ zMVc A Y F (zf_an2 V (ps.getD 1 0)).2 P' G' ∧ rn = (zf_an2 V (ps.getD 1 0)).1
theorem zX_an2 {l : Launch} {w : zk_W} (hWξ : zh_W w) (A : Nat → Nat) (Y : List (Nat × Nat)) (F : List (Nat × Nat × Nat)) (V : Nat → Nat → Int) : zk_metX l w zt_dv zt_TB zK_an2 (zp_A (zφ_an2 A Y F V)) (zp_B (zψ_an2 A Y F V)) ∧ zk_cok w zt_TB zK_an2 := by
  refine zp_methX (cn := "WoundTown") zp_lkallW hWξ (pl := 615) rfl (by decide +kernel) (fun p e R s m args below meth c Q u hx hb hEξ hQξ hU5ξ heffξ hnLξ hokξ hφ => ?_)
  have hwξ := hWξ.1
  obtain ⟨p0ξ, p1ξ, hpsξ, tk0, tk1⟩ := zp_ps2 hokξ
  have hrmξ : zk_Kr (zk_ev (zt_types, zp_lkW, zt_dv, [], [], zp_lcW, zK_an2)) = zk_Kr zK_an2 := rfl
  rw [hpsξ] at hφ ⊢
  have hφ : zMVc A Y F V u.1 (zp_n u.2.1) ∧ p0ξ = (A 0 : Int) ∧ zMc Y F := hφ
  obtain ⟨⟨M, hMξ, hVξ, hSbξ⟩, rfl, hYFξ⟩ := hφ
  have hYF0ξ := hYFξ
  obtain ⟨hYbξ, hFbξ, hFxξ, -⟩ := hYFξ
  have hi1ξ := zp_int tk1
  show zp_J p l e R s m args below meth c Q w u [] 0 [(0, 2, (A 0 : Int)), (1, 0, p1ξ)] [] u.1 (zp_n u.2.1)
  refine zp_load (pc := 0) hx hb (zd_X11_answered (0, .aload_n 0, 1, 0, []) (List.mem_of_getElem? (i := 0) rfl)) rfl (j := 0) rfl ?_
  refine zp_const (pc := 1) hx hb (zd_X11_answered (1, .iconst 0, 1, 0, []) (List.mem_of_getElem? (i := 1) rfl)) rfl rfl ?_
  refine zp_putf (pc := 2) hx hb hEξ hwξ heffξ (zd_X11_answered (2, .putfield 438, 3, 0, []) (List.mem_of_getElem? (i := 2) rfl)) (j := 68) rfl rfl rfl (zM_P hMξ (hYbξ _ (List.mem_of_getElem? (i := 0) rfl))) (zp_o0 (by decide) (by decide) (by decide) (by decide)) ?_
  refine zp_load (pc := 5) hx hb (zd_X11_answered (5, .iload_n 1, 1, 0, []) (List.mem_of_getElem? (i := 3) rfl)) rfl (j := 1) rfl ?_
  refine zp_iret (pc := 6) (n := p1ξ) hx hb hEξ hQξ hU5ξ rfl (by decide) (zd_X11_answered (6, .ireturn, 1, 0, []) (List.mem_of_getElem? (i := 4) rfl)) (j := 0) rfl (zp_o0 (by omega) (by omega) (by omega) (by omega)) ?_
  rw [hpsξ]
  refine ⟨rfl, ?_⟩
  have hffξ : zf_an2 V p1ξ = (p1ξ, (zp_set V 0 18 0)) := rfl
  show zMVc A Y F (zf_an2 V p1ξ).2 u.1 (zp_set (zp_n u.2.1) (A 0) 18 0) ∧ p1ξ = (zf_an2 V p1ξ).1
  rw [hffξ]
  exact ⟨⟨(zp_set M 0 18 0), (zM_set hMξ (hYbξ _ (List.mem_of_getElem? (i := 0) rfl)) (zFx hFxξ (o := 0) (k := 18) (by decide) (by decide))), (zV_set hVξ), trivial⟩, rfl⟩
noncomputable def zK_imc : zk_K := (zt_mn 176, prog_1_method_47_code, 3, (Option.some Jvm.ClassFile.FieldType.int), 1, 11, [(2, 12, 0, 0), (0, 0, (-2147483648), 2147483647)], [(some (0, 0, (-1), 0), [])], zEIm, (3, 240, 16, 198))
noncomputable def zφ_imc (A : Nat → Nat) (Y : List (Nat × Nat)) (F : List (Nat × Nat × Nat)) (V : Nat → Nat → Int) : (Nat → Option Nat) → (Nat → Nat → Int) → List Int → Prop := fun P G ps => zMVc A Y F V P G ∧ ps.getD 0 0 = (A 0 : Int) ∧ zMc Y F ∧ ∀ k : Nat, k < 2 → V 22 (2000 + k) = -1 ∨ ∃ c, V 22 (2000 + k) = (A c : Int) ∧ zIM Y F c
noncomputable def zψ_imc (A : Nat → Nat) (Y : List (Nat × Nat)) (F : List (Nat × Nat × Nat)) (V : Nat → Nat → Int) : (Nat → Option Nat) → (Nat → Nat → Int) → List Int → (Nat → Option Nat) → (Nat → Nat → Int) → Int → Prop := fun P G ps P' G' rn => (¬ (0 ≤ (ps.getD 1 0) ∧ (ps.getD 1 0) ≤ 1) ∧ P' = P ∧ rn = -1 ∧ zMVc A Y F (zf_rfs V (-1)).2 P' G') ∨ ((0 ≤ (ps.getD 1 0) ∧ (ps.getD 1 0) ≤ 1) ∧ rn = 0 ∧ ((∃ c, V 22 (2000 + (ps.getD 1 0).toNat) = (A c : Int) ∧ zIM Y F c ∧ P' = P ∧ zMVc A Y F (zf_ans (zT_im c V) 0).2 P' G') ∨ (V 22 (2000 + (ps.getD 1 0).toNat) = -1 ∧ ∃ (cp : Nat) (b : Nat → Nat) (V2 : Nat → Nat → Int), (∀ a t, P a = some t → P' a = some t) ∧ (P cp = none ∧ P' cp = some 93) ∧ (∀ q ∈ zTW, G' cp q.1 = (b q.2.1 : Int) ∧ P' (b q.2.1) = some q.2.2 ∧ P (b q.2.1) = none) ∧ (∀ i : Nat, i < 3 → G' (b 2) i = (b (50 + i) : Int) ∧ P' (b (50 + i)) = some (17 + i) ∧ P (b (50 + i)) = none) ∧ (∀ o k, 100 < o → zNy o → V2 o k = V (o - 100) k) ∧ (∀ o k, o < 100 → zNy o → G' (zTwA cp b o) k = (zf_tcz V2).2 o k) ∧ zMVc A Y F (zf_ans (zp_set V 22 (2000 + (ps.getD 1 0).toNat) (cp : Int)) 0).2 P' G')))
theorem zO_ie : zk_s7 zt_types zt_dv [zK_ntw] [1] zp_lcW (zk_Ke (zp_K0 zK_imc)) (zk_Kr (zp_K0 zK_imc)) 0 (.invokespecial 9) 3 30 zR_i1.2.1 zR_i1.2.2.1 1 19 = some [zO_i] := zh_oe (by decide +kernel)
theorem zX_imc {l : Launch} {w : zk_W} (hWξ : zh_W w) (A : Nat → Nat) (Y : List (Nat × Nat)) (F : List (Nat × Nat × Nat)) (V : Nat → Nat → Int) : zk_metX l w zt_dv zt_TB zK_imc (zp_A (zφ_imc A Y F V)) (zp_B (zψ_imc A Y F V)) ∧ zk_cok w zt_TB zK_imc := by
  refine zp_methX (cn := "WoundTown") zp_lkallW hWξ (pl := 1318) rfl (by decide +kernel) (fun p e R s m args below meth c Q u hx hb hEξ hQξ hU5ξ heffξ hnLξ hokξ hφ => ?_)
  refine zpn_of ?_
  have hwξ := hWξ.1
  obtain ⟨p0ξ, p1ξ, hpsξ, tk0, tk1⟩ := zp_ps2 hokξ
  have hrmξ : zk_Kr (zk_ev (zt_types, zp_lkW, zt_dv, [], [], zp_lcW, zK_imc)) = zk_Kr zK_imc := rfl
  rw [hpsξ] at hφ ⊢
  have hφ : zMVc A Y F V u.1 (zp_n u.2.1) ∧ p0ξ = (A 0 : Int) ∧ zMc Y F ∧ ∀ k : Nat, k < 2 → V 22 (2000 + k) = -1 ∨ ∃ c, V 22 (2000 + k) = (A c : Int) ∧ zIM Y F c := hφ
  obtain ⟨⟨M, hMξ, hVξ, hSbξ⟩, rfl, hYFξ, himξ⟩ := hφ
  have hYF0ξ := hYFξ
  obtain ⟨hYbξ, hFbξ, hFxξ, -⟩ := hYFξ
  have hi1ξ := zp_int tk1
  show zp_Jn _ _ p l e R s m args below meth c Q w u [] 0 [(0, 2, (A 0 : Int)), (1, 0, p1ξ)] [] u.1 (zp_n u.2.1)
  refine zpn_load (pc := 0) hx hb (zd_X11_image (0, .iload_n 1, 1, 0, []) (List.mem_of_getElem? (i := 0) rfl)) rfl (j := 1) rfl ?_
  refine zpn_const (pc := 1) hx hb (zd_X11_image (1, .iconst 0, 1, 0, []) (List.mem_of_getElem? (i := 1) rfl)) rfl rfl ?_
  refine zpn_const (pc := 2) hx hb (zd_X11_image (2, .iconst 1, 1, 0, []) (List.mem_of_getElem? (i := 2) rfl)) rfl rfl ?_
  refine zpn_call (pc := 3) (how := 1) (idx := 107) (mi := 15) (S := []) hx hb hEξ hwξ heffξ hrmξ (zX_iwn hWξ) rfl (j := 10) rfl rfl (by decide +kernel) (zd_X11_image (3, .invokestatic 107, 3, 0, []) (List.mem_of_getElem? (i := 3) rfl)) [p1ξ, 0, 1] rfl ⟨zp_o0 (by omega) (by omega) (by omega) (by omega), zp_o0 (by omega) (by omega) (by omega) (by omega), zp_o0 (by omega) (by omega) (by omega) (by omega), trivial⟩ (Nat.le_of_ble_eq_true rfl) trivial (fun al halξ rnn503ξ Pn503 Gn503 hextn503ξ hfrn503ξ hokn503ξ hcsn503ξ hpsin503ξ => ?_)
  obtain rfl := List.mem_singleton.mp halξ
  have hrn503ξ := zp_int (hokn503ξ _ rfl).1
  obtain ⟨hPen503ξ, hGen503ξ, htn503ξ⟩ := hpsin503ξ
  rw [hPen503ξ, hGen503ξ]
  clear hextn503ξ hfrn503ξ hcsn503ξ hPen503ξ hGen503ξ
  have htn503ξ : rnn503ξ = 1 ↔ 0 ≤ p1ξ ∧ p1ξ ≤ 1 := htn503ξ
  refine zpn_if (pc := 6) (tgt := 15) hx hb (zd_X11_image (6, .ifCond .ne 9, 3, 0, []) (List.mem_of_getElem? (i := 4) rfl)) rfl (fun (hc504ξ : ¬ rnn503ξ = 0) => ?_) (fun (hc504ξ : ¬ (¬ rnn503ξ = 0)) => ?_)
  · have hbt505ξ := (Iff.mp htn503ξ) (by omega)
    refine zpn_load (pc := 15) hx hb (zd_X11_image (15, .aload_n 0, 1, 0, []) (List.mem_of_getElem? (i := 9) rfl)) rfl (j := 0) rfl ?_
    refine zpn_getf (n := (A 22 : Int)) (pc := 16) hx hb hEξ hwξ (zd_X11_image (16, .getfield 16, 3, 0, []) (List.mem_of_getElem? (i := 10) rfl)) (j := 51) rfl rfl rfl (zM_P hMξ (hYbξ _ (List.mem_of_getElem? (i := 0) rfl))) ((zM_G hMξ (hYbξ _ (List.mem_of_getElem? (i := 0) rfl)) 1).trans (zM_F hMξ (hFbξ _ (List.mem_of_getElem? (i := 1) rfl)))) ?_
    refine zpn_load (pc := 19) hx hb (zd_X11_image (19, .iload_n 1, 1, 0, []) (List.mem_of_getElem? (i := 11) rfl)) rfl (j := 1) rfl ?_
    refine zpn_aald (j := p1ξ.toNat) (v := (V 22 (2000 + p1ξ.toNat))) (len := 2) (x := 93) (lo := (-1)) (hi := 0) (pc := 20) hx hb hwξ (zd_X11_image (20, .aaload, 1, 0, []) (List.mem_of_getElem? (i := 12) rfl)) rfl (zM_P hMξ (hYbξ _ (List.mem_of_getElem? (i := 16) rfl))) (by omega) (by omega) ((zM_G hMξ (hYbξ _ (List.mem_of_getElem? (i := 16) rfl)) (2000 + p1ξ.toNat)).trans (hVξ 22 (2000 + p1ξ.toNat) (by decide))) (fun hk507ξ => ?_)
    refine zpn_store (L' := [(2, 2, (V 22 (2000 + p1ξ.toNat))), (0, 2, (A 0 : Int)), (1, 0, p1ξ)]) (pc := 21) hx hb hnLξ (zd_X11_image (21, .astore_n 2, 1, 0, []) (List.mem_of_getElem? (i := 13) rfl)) rfl rfl rfl ?_
    refine zpn_load (pc := 22) hx hb (zd_X11_image (22, .aload_n 2, 1, 0, []) (List.mem_of_getElem? (i := 14) rfl)) rfl (j := 0) rfl ?_
    rcases himξ p1ξ.toNat (by omega) with hc9ξ | ⟨c9ξ, hc9ξ, hI9ξ⟩
    · rw [hc9ξ]
      refine zpn_nnn (pc := 23) hx hb (by decide) (zd_X11_image (23, .ifnonnull 18, 3, 0, []) (List.mem_of_getElem? (i := 15) rfl)) ?_
      intro F0 H0 locs0 ls0 hF0ξ hI0ξ hL0ξ hkL0ξ hkS0ξ
      have hE9ξ := zh_ctx9 hEξ hnLξ (zq_ntw hWξ) (mi := 1) rfl F0
      have hCLξ := zq_note_ok zd_X11_image []
      have hpthξ := (zM_P hMξ (hYbξ _ (List.mem_of_getElem? (i := 0) rfl)))
      have hk1ξ : zk_ok u.1 (0, 0, 0, 1) p1ξ := zp_o0 (by omega) (by omega) (by omega) (by omega)
      obtain ⟨i1, i2, i3, i4, i5⟩ := hI0ξ
      have hGiξ : zk_G w s (u.1, F0, u.2.2.1, zk_Ke (zp_K0 zK_imc), [], (zp_K0 zK_imc).2.2.1, u.2.2.2.2.2.2) ([(0, 0, 0, 0), (1, 0, 0, 0), (2, 0, (-1), (-1)), (2, 12, 0, 0), (0, 0, 0, 1)], [], [], [], [(0, (3, 0)), (1, (4, 0))], [(0, 3), (1, 4)], []) [0, 0, -1, (A 0 : Int), p1ξ] u.1 F0 H0 locs0 ls0 := by
        have hls9ξ : lv_has ls0 (zp_K0 zK_imc).2.2.1 [(0, zk_mk 2 (A 0 : Int)), (1, zk_mk 0 p1ξ)] := ⟨hL0ξ.1.trans hnLξ, hL0ξ.2.1, fun q hqξ => hL0ξ.2.2 q (by simp only [List.map_cons, List.map_nil, List.mem_cons, List.not_mem_nil, or_false] at hqξ ⊢; rcases hqξ with h | h; exact Or.inr (Or.inl h); exact Or.inr (Or.inr h))⟩
        refine ⟨⟨⟨by decide, by decide, by decide, by decide⟩, ⟨by decide, by decide, by decide, by decide⟩, ⟨by decide, by decide, fun _ => by decide, fun h => absurd h (by decide)⟩, zp_o2 hpthξ, hk1ξ, trivial⟩, fun q h => absurd h List.not_mem_nil, fun q h => absurd h List.not_mem_nil, trivial, i1.strong, ⟨_, hls9ξ, ⟨rfl, ⟨(2, 12, 0, 0), (A 0 : Int), rfl, rfl, trivial, by rw [Int.add_zero]⟩⟩, ⟨rfl, ⟨(0, 0, 0, 1), p1ξ, rfl, rfl, by rw [Int.add_zero]; exact hk1ξ.2.2, by rw [Int.add_zero]⟩⟩, trivial⟩, i2, fun a t h => zk_same.rf, i4, fun q hqξ => ?_, fun q h => absurd h List.not_mem_nil, fun i n h => ?_, i5⟩
        · rw [hpsξ]
          simp only [List.mem_cons, List.not_mem_nil, or_false] at hqξ
          rcases hqξ with rfl | rfl
          · exact ⟨_, rfl, rfl⟩
          · exact ⟨_, rfl, rfl⟩
        · simp at h
      refine zh_segC (K := zp_K0 zK_imc) hx hb hE9ξ hCLξ (pc := 26) (st := []) (cu := 0) (su := 0) (sv := []) (AN := [zR_i1]) (fuel := 60) (by decide +kernel) hGiξ trivial (fun A9 hA9ξ N P F9 H locs ls sv hGξ hSξ => ?_)
      obtain rfl := List.mem_singleton.mp hA9ξ
      refine zh_callC (K := zp_K0 zK_imc) hx hb hE9ξ (zX_ntw hWξ) (mi := 1) rfl (i := .invokespecial 9) (len := 3) (pc := 30) zO_ie (zd_X11_image (30, .invokespecial 9, 3, 0, []) (List.mem_of_getElem? (i := 18) rfl)) hGξ hSξ (fun y hyξ N2 P2 F2 H2 locs2 ls2 sv2 ps2 rn2ξ hp2ξ hB2ξ hN2ξ hG2ξ hS2ξ => ?_)
      obtain rfl := List.mem_singleton.mp hyξ
      obtain ⟨cp, hcpξ, qcp⟩ := zh_r (i := 5) (t := 93) hG2ξ.1 rfl
      have hgtξ : ∀ (j : Nat) (v : Int), j < 6 → N2[j]? = some v → N[j]? = some v := fun j v hjξ h => by
        rcases hN2ξ with e | e
        · rw [e] at h
          exact h
        · rw [e, List.getElem?_append_left (by have := zk_all2_len hGξ.1; have e2 : zR_i1.2.1.1.length = 6 := rfl; omega)] at h
          exact h
      have hps2ξ : ps2 = [(cp : Int)] := by
        have hp2ξ : zk_all2 (fun (q : zk_S) (n : Int) => ∃ k, N[q.1]? = some k ∧ n = k + q.2) [((5, 0) : zk_S)] ps2 := hp2ξ
        obtain ⟨y1, rfl, k1ξ, g1, g2⟩ := zp_ps1 hp2ξ
        cases (hgtξ 5 _ (by decide) hcpξ).symm.trans g1
        rw [g2]
        simp
      have hextnξ : ∀ a t, u.1 a = some t → P a = some t := hGξ.2.2.2.2.2.2.1
      obtain ⟨-, hB3ξ⟩ := hB2ξ
      obtain ⟨b, hb1ξ, hb2ξ⟩ := hB3ξ cp hps2ξ
      have hnoneξ : ∀ x : Nat, P x = none → u.1 x = none := fun x h => by
        cases h9ξ : u.1 x with
        | none => rfl
        | some t9ξ => rw [hextnξ _ _ h9ξ] at h; cases h
      have hcnξ : u.1 cp = none := by
        obtain ⟨n9ξ, fs9, g1, -, -, g4, -⟩ := hGξ.2.2.2.1
        cases (hgtξ 5 _ (by decide) hcpξ).symm.trans g1
        exact hnoneξ _ g4
      obtain ⟨q1, q2, q3, q4, q5, ⟨lv, hlvξ, hlv2ξ⟩, hext2ξ, hef2ξ, q9ξ, q10, q11, q12, q13⟩ := hG2ξ
      have hext2ξ : ∀ a t, u.1 a = some t → P2 a = some t := hext2ξ
      have hef2ξ : zk_ef [] u.2.2.1 u.1 F0 F2 := hef2ξ
      have hold2ξ : ∀ a t k, u.1 a = some t → zp_n F2 a k = zp_n u.2.1 a k := fun a t k h => (zp_ef_fr hef2ξ a t k h (fun ⟨q, q1, _⟩ => absurd q1 List.not_mem_nil)).trans (by rw [hF0ξ])
      have hM9ξ : zM A Y F M P2 (zp_n F2) := zM_fr hMξ hext2ξ (fun q hqξ k => hold2ξ _ _ k (hMξ.1 q hqξ).1)
      have hlv3ξ : zk_all2 (zk_lr zO_i.2.1.1 N2) [(0, ((3, 0) : zk_S)), (1, (4, 0))] lv := hlv2ξ
      have hN3ξ : N2[3]? = some (A 0 : Int) := zh_pa (j := 0) q10 List.mem_cons_self (by rw [hpsξ]; rfl)
      have hN4ξ : N2[4]? = some p1ξ := zh_pa (j := 1) q10 (List.mem_cons_of_mem _ List.mem_cons_self) (by rw [hpsξ]; rfl)
      have hlvEξ : lv = ([((0, 2, (A 0 : Int)) : Nat × Nat × Int), (1, 0, p1ξ)] : List (Nat × Nat × Int)).map (fun q => (q.1, zk_mk q.2.1 q.2.2)) := by
        obtain ⟨⟨i9ξ, v9ξ⟩, ⟨j9ξ, v8⟩, e9ξ, ⟨g1, g2⟩, ⟨g3, g4⟩⟩ := zq_all2_2 hlv3ξ
        · rw [e9ξ]
          have g1 : 0 = i9ξ := g1
          have g3 : 1 = j9ξ := g3
          subst g1 g3
          have g5 : v9ξ = .ref (A 0) := zh_vr (x := 3) (t := 12) g2 rfl hN3ξ
          have g6 : v8 = .int (Int32.ofInt (p1ξ + 0)) := (zh_vi (x := 4) (t := 0) g4 rfl hN4ξ).1
          rw [g5, g6]
          show [(0, Value.ref (A 0)), (1, Value.int (Int32.ofInt (p1ξ + 0)))] = [(0, zk_mk 2 (A 0 : Int)), (1, zk_mk 0 p1ξ)]
          rw [zp_ref, Int.add_zero]
          rfl
      rw [hlvEξ] at hlvξ
      have hsv2ξ : sv2 = ([((2, (cp : Int)) : Nat × Int)] : List (Nat × Int)).map (fun q => zk_mk q.1 q.2) := by
        have hS3ξ : zk_all2 (zk_sv zO_i.2.1.1 N2) [((5, 0) : zk_S)] sv2 := hS2ξ
        match sv2, hS3ξ with
        | [v9ξ], h => rw [zh_vr (x := 5) (t := 93) h.1 rfl hcpξ, ← zp_ref cp]; rfl
      have hznξ : zp_k (2, (cp : Int)) := zp_ok_k (zp_o2 qcp) (by decide)
      have hzaξ : zp_k (2, (A 0 : Int)) := zp_ok_k (zp_o2 (hext2ξ _ _ hpthξ)) (by decide)
      have hz1ξ : zp_k (0, p1ξ) := zp_ok_k hk1ξ (by decide)
      rw [hsv2ξ]
      refine (show zp_Jn 16 198 p l e R s m args below meth c Q w u [] 33 [(0, 2, (A 0 : Int)), (1, 0, p1ξ)] [(2, (cp : Int))] P2 (zp_n F2) from ?_) F2 H2 locs2 ls2 rfl ⟨zp_wt.of q5, hext2ξ, zk_ef_tr i3 hef2ξ, q9ξ, q13⟩ (by rw [hnLξ]; exact hlvξ) (fun q h => ?_) (fun q h => by rw [List.mem_singleton.mp h]; exact hznξ)
      · refine zpn_store (L' := [(2, 2, (cp : Int)), (0, 2, (A 0 : Int)), (1, 0, p1ξ)]) (pc := 33) hx hb hnLξ (zd_X11_image (33, .astore_n 2, 1, 0, []) (List.mem_of_getElem? (i := 19) rfl)) rfl rfl rfl ?_
        refine zpn_load (pc := 34) hx hb (zd_X11_image (34, .aload_n 0, 1, 0, []) (List.mem_of_getElem? (i := 20) rfl)) rfl (j := 1) rfl ?_
        refine zpn_getf (n := (A 22 : Int)) (pc := 35) hx hb hEξ hwξ (zd_X11_image (35, .getfield 16, 3, 0, []) (List.mem_of_getElem? (i := 21) rfl)) (j := 51) rfl rfl rfl (zM_P hM9ξ (hYbξ _ (List.mem_of_getElem? (i := 0) rfl))) ((zM_G hM9ξ (hYbξ _ (List.mem_of_getElem? (i := 0) rfl)) 1).trans (zM_F hM9ξ (hFbξ _ (List.mem_of_getElem? (i := 1) rfl)))) ?_
        refine zpn_load (pc := 38) hx hb (zd_X11_image (38, .iload_n 1, 1, 0, []) (List.mem_of_getElem? (i := 22) rfl)) rfl (j := 2) rfl ?_
        refine zpn_load (pc := 39) hx hb (zd_X11_image (39, .aload_n 2, 1, 0, []) (List.mem_of_getElem? (i := 23) rfl)) rfl (j := 0) rfl ?_
        refine zpn_aast (j := p1ξ.toNat) (pc := 40) hx hb hEξ hwξ heffξ (zd_X11_image (40, .aastore, 1, 0, []) (List.mem_of_getElem? (i := 24) rfl)) (lo := (-1)) (hi := 0) rfl rfl rfl rfl rfl (zM_P hM9ξ (hYbξ _ (List.mem_of_getElem? (i := 16) rfl))) qcp (zp_o2m2 qcp) (by omega) (show p1ξ.toNat < 2 by omega) (by omega) ⟨by decide, by decide⟩ rfl ?_
        refine zpn_load (pc := 41) hx hb (zd_X11_image (41, .aload_n 2, 1, 0, []) (List.mem_of_getElem? (i := 25) rfl)) rfl (j := 0) rfl ?_
        refine zpn_load (pc := 42) hx hb (zd_X11_image (42, .aload_n 0, 1, 0, []) (List.mem_of_getElem? (i := 26) rfl)) rfl (j := 1) rfl ?_
        refine zpn_getf (n := (A 1 : Int)) (pc := 43) hx hb hEξ hwξ (zd_X11_image (43, .getfield 10, 3, 0, []) (List.mem_of_getElem? (i := 27) rfl)) (j := 50) rfl rfl rfl (zM_P hM9ξ (hYbξ _ (List.mem_of_getElem? (i := 0) rfl))) ((zp_set_ne (Or.inl (zM_ne hM9ξ (hYbξ _ (List.mem_of_getElem? (i := 0) rfl)) (hYbξ _ (List.mem_of_getElem? (i := 16) rfl)) (by decide)))).trans (((zM_G hM9ξ (hYbξ _ (List.mem_of_getElem? (i := 0) rfl)) 0).trans (zM_F hM9ξ (hFbξ _ (List.mem_of_getElem? (i := 0) rfl)))))) ?_
        have hcwξ : ∀ k, (zp_set (zp_n F2) (A 22) (2000 + p1ξ.toNat) (cp : Int)) cp k = zp_n F2 cp k := fun k => (zp_set_ne (Or.inl (zp_pne qcp (zM_P hM9ξ (hYbξ _ (List.mem_of_getElem? (i := 16) rfl))) (by decide))))
        have hbwξ : ∀ q ∈ zTW, ∀ k, (zp_set (zp_n F2) (A 22) (2000 + p1ξ.toNat) (cp : Int)) (b q.2.1) k = zp_n F2 (b q.2.1) k := fun q hqξ k => zp_set_ne (Or.inl (zp_pne (hb1ξ q hqξ).2.1 (zM_P hM9ξ (hYbξ _ (List.mem_of_getElem? (i := 16) rfl))) (zTW_55 q hqξ)))
        have hn2ξ : ∀ q ∈ zTW, (zp_set (zp_n F2) (A 22) (2000 + p1ξ.toNat) (cp : Int)) cp q.1 = (b q.2.1 : Int) ∧ P2 (b q.2.1) = some q.2.2 ∧ u.1 (b q.2.1) = none := fun q hqξ => ⟨(hcwξ _).trans (hb1ξ q hqξ).1, (hb1ξ q hqξ).2.1, hnoneξ _ (hb1ξ q hqξ).2.2⟩
        have hn3ξ : ∀ i : Nat, i < 3 → (zp_set (zp_n F2) (A 22) (2000 + p1ξ.toNat) (cp : Int)) (b 2) i = (b (50 + i) : Int) ∧ P2 (b (50 + i)) = some (17 + i) ∧ u.1 (b (50 + i)) = none := fun i hi => ⟨(hbwξ (18, 2, 2) (by decide) i).trans (hb2ξ i hi).1, (hb2ξ i hi).2.1, hnoneξ _ (hb2ξ i hi).2.2⟩
        have hmTξ := zM_two (zM_setE hM9ξ (hYbξ _ (List.mem_of_getElem? (i := 16) rfl))) hYF0ξ (fun q hqξ => (hMξ.1 q hqξ).1) ⟨hcnξ, qcp⟩ hn2ξ hn3ξ
        have hvTξ : ∀ o k, zNy o → (if 100 ≤ o then (zp_set M 22 (2000 + p1ξ.toNat) (cp : Int)) (o - 100) k else (zp_set (zp_n F2) (A 22) (2000 + p1ξ.toNat) (cp : Int)) (zTwA cp b o) k) = (if 100 ≤ o then (zp_set V 22 (2000 + p1ξ.toNat) (cp : Int)) (o - 100) k else (zp_set (zp_n F2) (A 22) (2000 + p1ξ.toNat) (cp : Int)) (zTwA cp b o) k) := fun o k h => by
          by_cases hlξ : 100 ≤ o
          · rw [if_pos hlξ, if_pos hlξ]
            have h2ξ : ∀ o ∈ ([1, 2, 30, 31, 32, 33, 34, 35, 36, 37, 38, 39, 40, 50, 51, 52, 101, 102, 130, 131, 132, 133, 134, 135, 136, 137, 138, 139, 140, 150, 151, 152] : List Nat), 100 ≤ o → zNc (o - 100) := by decide
            exact (zV_set hVξ) _ _ (h2ξ o h hlξ)
          · rw [if_neg hlξ, if_neg hlξ]
        refine zpn_call (pc := 46) (how := 0) (idx := 434) (mi := 177) (S := []) hx hb hEξ hwξ heffξ hrmξ (zX_tcz hWξ (fun o => if 100 ≤ o then A (o - 100) else zTwA cp b o) (fun o k => if 100 ≤ o then (zp_set V 22 (2000 + p1ξ.toNat) (cp : Int)) (o - 100) k else (zp_set (zp_n F2) (A 22) (2000 + p1ξ.toNat) (cp : Int)) (zTwA cp b o) k)) rfl (j := 65) rfl rfl (by decide +kernel) (zd_X11_image (46, .invokevirtual 434, 3, 0, []) (List.mem_of_getElem? (i := 28) rfl)) [(cp : Int), (A 1 : Int)] rfl ⟨zp_o2 qcp, zp_o2 (zM_P hM9ξ (hYbξ _ (List.mem_of_getElem? (i := 1) rfl))), trivial⟩ (Nat.le_of_ble_eq_true rfl) ⟨⟨_, hmTξ, hvTξ, trivial⟩, rfl, rfl⟩ (fun al halξ rnn508ξ Pn508 Gn508 hextn508ξ hfrn508ξ hokn508ξ hcsn508ξ hpsin508ξ => ?_)
        obtain rfl := List.mem_singleton.mp halξ
        obtain ⟨hPen508ξ, ⟨Mn508, hMn508ξ, hVn508ξ, -⟩, hRn508ξ⟩ := hpsin508ξ
        subst hPen508ξ
        clear hextn508ξ hfrn508ξ hcsn508ξ hokn508ξ
        have hM8n508ξ : zM A Y F _ _ Gn508 := zM_fr (zM_setE hM9ξ (hYbξ _ (List.mem_of_getElem? (i := 16) rfl))) (fun _ _ h => h) (fun q hqξ k => hRn508ξ _ k (zTd_two (hMξ.1 q hqξ).1 hcnξ (fun q hqξ => hnoneξ _ (hb1ξ q hqξ).2.2) (fun i hi => hnoneξ _ (hb2ξ i hi).2.2)))
        have hV8n508ξ : ∀ o k, zNc o → (zp_set M 22 (2000 + p1ξ.toNat) (cp : Int)) o k = (zp_set V 22 (2000 + p1ξ.toNat) (cp : Int)) o k := (zV_set hVξ)
        refine zpn_load (pc := 49) hx hb (zd_X11_image (49, .aload_n 0, 1, 0, []) (List.mem_of_getElem? (i := 29) rfl)) rfl (j := 1) rfl ?_
        refine zpn_const (pc := 50) hx hb (zd_X11_image (50, .iconst 0, 1, 0, []) (List.mem_of_getElem? (i := 30) rfl)) rfl rfl ?_
        refine zpn_call (pc := 51) (how := 0) (idx := 118) (mi := 17) (S := []) hx hb hEξ hwξ heffξ hrmξ (zX_an2 hWξ A Y F (zp_set V 22 (2000 + p1ξ.toNat) (cp : Int))) rfl (j := 12) rfl rfl (by decide +kernel) (zd_X11_image (51, .invokevirtual 118, 3, 0, []) (List.mem_of_getElem? (i := 31) rfl)) [(A 0 : Int), 0] rfl ⟨zp_o2 (zM_P hM8n508ξ (hYbξ _ (List.mem_of_getElem? (i := 0) rfl))), zp_o0 (by omega) (by omega) (by omega) (by omega), trivial⟩ (Nat.le_of_ble_eq_true rfl) ⟨⟨(zp_set M 22 (2000 + p1ξ.toNat) (cp : Int)), hM8n508ξ, hV8n508ξ, trivial⟩, rfl, hYF0ξ⟩ (fun al halξ rna509ξ Pa509 Ga509 hexta509ξ hfra509ξ hoka509ξ hcsa509ξ hpsia509ξ => ?_)
        obtain rfl := List.mem_singleton.mp halξ
        have hra509ξ := zp_int (hoka509ξ _ rfl).1
        obtain ⟨hPea509ξ, ⟨Ma509, hMa509ξ, hVa509ξ, hSba509ξ⟩, hta509ξ⟩ := hpsia509ξ
        subst hPea509ξ
        clear hexta509ξ hcsa509ξ hoka509ξ
        have hVa509ξ : ∀ o k, zNc o → Ma509 o k = (zf_an2 (zp_set V 22 (2000 + p1ξ.toNat) (cp : Int)) 0).2 o k := hVa509ξ
        have hta509ξ : rna509ξ = ((zf_an2 (zp_set V 22 (2000 + p1ξ.toNat) (cp : Int)) 0).1) := hta509ξ
        have hta509ξ := (Eq.symm hta509ξ)
        subst hta509ξ
        have hrvξ : ((zf_an2 (zp_set V 22 (2000 + p1ξ.toNat) (cp : Int)) 0).1) = 0 := by rfl
        refine zpn_iret (pc := 54) (n := ((zf_an2 (zp_set V 22 (2000 + p1ξ.toNat) (cp : Int)) 0).1)) hx hb hEξ hQξ hU5ξ rfl (by decide) (zd_X11_image (54, .ireturn, 1, 0, []) (List.mem_of_getElem? (i := 32) rfl)) (j := 0) rfl (zp_o0 (by rw [hrvξ]; omega) (by rw [hrvξ]; omega) (by rw [hrvξ]; omega) (by rw [hrvξ]; omega)) (by decide +kernel) (by decide +kernel) ?_
        rw [hpsξ]
        show (¬ (0 ≤ p1ξ ∧ p1ξ ≤ 1) ∧ Pa509 = u.1 ∧ ((zf_an2 (zp_set V 22 (2000 + p1ξ.toNat) (cp : Int)) 0).1) = -1 ∧ zMVc A Y F (zf_rfs V (-1)).2 Pa509 Ga509) ∨ ((0 ≤ p1ξ ∧ p1ξ ≤ 1) ∧ ((zf_an2 (zp_set V 22 (2000 + p1ξ.toNat) (cp : Int)) 0).1) = 0 ∧ ((∃ c, V 22 (2000 + p1ξ.toNat) = (A c : Int) ∧ zIM Y F c ∧ Pa509 = u.1 ∧ zMVc A Y F (zf_ans (zT_im c V) 0).2 Pa509 Ga509) ∨ (V 22 (2000 + p1ξ.toNat) = -1 ∧ ∃ (cp : Nat) (b : Nat → Nat) (V2 : Nat → Nat → Int), (∀ a t, u.1 a = some t → Pa509 a = some t) ∧ (u.1 cp = none ∧ Pa509 cp = some 93) ∧ (∀ q ∈ zTW, Ga509 cp q.1 = (b q.2.1 : Int) ∧ Pa509 (b q.2.1) = some q.2.2 ∧ u.1 (b q.2.1) = none) ∧ (∀ i : Nat, i < 3 → Ga509 (b 2) i = (b (50 + i) : Int) ∧ Pa509 (b (50 + i)) = some (17 + i) ∧ u.1 (b (50 + i)) = none) ∧ (∀ o k, 100 < o → zNy o → V2 o k = V (o - 100) k) ∧ (∀ o k, o < 100 → zNy o → Ga509 (zTwA cp b o) k = (zf_tcz V2).2 o k) ∧ zMVc A Y F (zf_ans (zp_set V 22 (2000 + p1ξ.toNat) (cp : Int)) 0).2 Pa509 Ga509)))
        have hYtξ : ∀ o t, (o, t) ∈ zYz → ∀ k, Ga509 ((fun o => if 100 ≤ o then A (o - 100) else zTwA cp b o) o) k = Mn508 o k := fun o t hoξ k => by
          have h9ξ := hMn508ξ.1 (o, t) hoξ
          have h8ξ : ∀ q ∈ zYz, zp_ncb [(12, 18, 0)] q.2 = true := by decide
          exact (zp_nc hfra509ξ h9ξ.1 (h8ξ _ hoξ) k).trans (h9ξ.2 k)
        refine Or.inr ⟨by omega, hrvξ, Or.inr ⟨hc9ξ, cp, b, (fun o k => if 100 ≤ o then (zp_set V 22 (2000 + p1ξ.toNat) (cp : Int)) (o - 100) k else (zp_set (zp_n F2) (A 22) (2000 + p1ξ.toNat) (cp : Int)) (zTwA cp b o) k), hext2ξ, ⟨hcnξ, qcp⟩, fun q hqξ => ⟨?_, (hb1ξ q hqξ).2.1, hnoneξ _ (hb1ξ q hqξ).2.2⟩, fun i hi => ⟨?_, (hb2ξ i hi).2.1, hnoneξ _ (hb2ξ i hi).2.2⟩, fun o k hoξ hyξ => ?_, fun o k hoξ hyξ => ?_, ⟨Ma509, hMa509ξ, hVa509ξ, trivial⟩⟩⟩
        · have h1ξ : ∀ q ∈ zTW, (1, q.1, q.2.1) ∈ zFz ∧ q.2.1 < 100 ∧ q.2.1 ≠ 1 := by decide
          obtain ⟨h2ξ, h3ξ, h4ξ⟩ := h1ξ q hqξ
          have h5ξ := (hYtξ 1 93 (by decide) q.1).trans (hMn508ξ.2.1 _ h2ξ)
          have h6ξ : (if 100 ≤ q.2.1 then A (q.2.1 - 100) else zTwA cp b q.2.1) = b q.2.1 := by rw [if_neg (by omega)]; unfold zTwA; rw [if_neg h4ξ]
          exact (Eq.trans h5ξ) (congrArg (fun (x : Nat) => (x : Int)) h6ξ)
        · have h1ξ : ∀ i : Nat, i < 3 → (2, i, 50 + i) ∈ zFz := by decide
          have h5ξ := (hYtξ 2 2 (by decide) i).trans (hMn508ξ.2.1 _ (h1ξ i hi))
          have h6ξ : (if 100 ≤ 50 + i then A (50 + i - 100) else zTwA cp b (50 + i)) = b (50 + i) := by rw [if_neg (by omega)]; unfold zTwA; rw [if_neg (by omega)]
          exact (Eq.trans h5ξ) (congrArg (fun (x : Nat) => (x : Int)) h6ξ)
        · dsimp only
          rw [if_pos (by omega), zp_set_ne (Or.inl ?_)]
          have h2ξ : ∀ o ∈ ([1, 2, 30, 31, 32, 33, 34, 35, 36, 37, 38, 39, 40, 50, 51, 52, 101, 102, 130, 131, 132, 133, 134, 135, 136, 137, 138, 139, 140, 150, 151, 152] : List Nat), o - 100 ≠ 22 := by decide
          exact h2ξ o hyξ
        · have h2ξ : ∀ o ∈ ([1, 2, 30, 31, 32, 33, 34, 35, 36, 37, 38, 39, 40, 50, 51, 52, 101, 102, 130, 131, 132, 133, 134, 135, 136, 137, 138, 139, 140, 150, 151, 152] : List Nat), zYz.any (fun q => q.1 == o) = true := by decide
          obtain ⟨q, hqξ, e9ξ⟩ := List.any_eq_true.mp (h2ξ o hyξ)
          rw [beq_iff_eq] at e9ξ
          have h5ξ := (hYtξ q.1 q.2 hqξ k).trans (hVn508ξ q.1 k (by rw [e9ξ]; exact hyξ))
          rw [e9ξ] at h5ξ
          have h6ξ : (fun o => if 100 ≤ o then A (o - 100) else zTwA cp b o) o = zTwA cp b o := if_neg (by omega)
          rw [h6ξ] at h5ξ
          exact h5ξ
      · rcases List.mem_cons.mp h with rfl | h
        · exact hzaξ
        · rw [List.mem_singleton.mp h]
          exact hz1ξ
    · rw [hc9ξ]
      refine zpn_nnr (pc := 23) (tgt := 41) hx hb (zd_X11_image (23, .ifnonnull 18, 3, 0, []) (List.mem_of_getElem? (i := 15) rfl)) rfl ?_
      refine zpn_load (pc := 41) hx hb (zd_X11_image (41, .aload_n 2, 1, 0, []) (List.mem_of_getElem? (i := 25) rfl)) rfl (j := 0) rfl ?_
      refine zpn_load (pc := 42) hx hb (zd_X11_image (42, .aload_n 0, 1, 0, []) (List.mem_of_getElem? (i := 26) rfl)) rfl (j := 1) rfl ?_
      refine zpn_getf (n := (A 1 : Int)) (pc := 43) hx hb hEξ hwξ (zd_X11_image (43, .getfield 10, 3, 0, []) (List.mem_of_getElem? (i := 27) rfl)) (j := 50) rfl rfl rfl (zM_P hMξ (hYbξ _ (List.mem_of_getElem? (i := 0) rfl))) ((zM_G hMξ (hYbξ _ (List.mem_of_getElem? (i := 0) rfl)) 0).trans (zM_F hMξ (hFbξ _ (List.mem_of_getElem? (i := 0) rfl)))) ?_
      have hmTt510ξ := zM_map hMξ (zIM_zy hYF0ξ hI9ξ) (zIM_zf hYF0ξ hI9ξ) (zIM_zi hI9ξ.1)
      refine zpn_call (pc := 46) (how := 0) (idx := 434) (mi := 177) (S := []) hx hb hEξ hwξ heffξ hrmξ (zX_tcz hWξ (fun o => A (zτi c9ξ o)) (fun o k => V (zτi c9ξ o) k)) rfl (j := 65) rfl rfl (by decide +kernel) (zd_X11_image (46, .invokevirtual 434, 3, 0, []) (List.mem_of_getElem? (i := 28) rfl)) [(A c9ξ : Int), (A 1 : Int)] rfl ⟨zp_o2 (zM_P hMξ (hI9ξ.2.1 (0, 93) (by decide))), zp_o2 (zM_P hMξ (hYbξ _ (List.mem_of_getElem? (i := 1) rfl))), trivial⟩ (Nat.le_of_ble_eq_true rfl) ⟨⟨_, hmTt510ξ, fun o k h => hVξ _ _ (zNc_i hI9ξ.1 h), trivial⟩, rfl, rfl⟩ (fun al halξ rnt510ξ Pt510 Gt510 hextt510ξ hfrt510ξ hokt510ξ hcst510ξ hpsit510ξ => ?_)
      obtain rfl := List.mem_singleton.mp halξ
      obtain ⟨hPet510ξ, ⟨Mt510, hMt510ξ, hVt510ξ, -⟩, hRt510ξ⟩ := hpsit510ξ
      subst hPet510ξ
      clear hextt510ξ hfrt510ξ hcst510ξ hokt510ξ
      have hM8t510ξ := zM_put (ρ := (zρi c9ξ)) hMξ hMt510ξ (zIM_zy hYF0ξ hI9ξ) hRt510ξ (fun o d h => zρi_1 h) zρi_2 (zT_ims hMξ hYF0ξ hI9ξ hVξ hVt510ξ)
      have hV8t510ξ : ∀ o k, zNc o → zPut (zρi c9ξ) M Mt510 o k = zT_im c9ξ V o k := zT_imv hVξ hVt510ξ
      refine zpn_load (pc := 49) hx hb (zd_X11_image (49, .aload_n 0, 1, 0, []) (List.mem_of_getElem? (i := 29) rfl)) rfl (j := 1) rfl ?_
      refine zpn_const (pc := 50) hx hb (zd_X11_image (50, .iconst 0, 1, 0, []) (List.mem_of_getElem? (i := 30) rfl)) rfl rfl ?_
      refine zpn_call (pc := 51) (how := 0) (idx := 118) (mi := 17) (S := []) hx hb hEξ hwξ heffξ hrmξ (zX_an2 hWξ A Y F (zT_im c9ξ V)) rfl (j := 12) rfl rfl (by decide +kernel) (zd_X11_image (51, .invokevirtual 118, 3, 0, []) (List.mem_of_getElem? (i := 31) rfl)) [(A 0 : Int), 0] rfl ⟨zp_o2 (zM_P hM8t510ξ (hYbξ _ (List.mem_of_getElem? (i := 0) rfl))), zp_o0 (by omega) (by omega) (by omega) (by omega), trivial⟩ (Nat.le_of_ble_eq_true rfl) ⟨⟨(zPut (zρi c9ξ) M Mt510), hM8t510ξ, hV8t510ξ, trivial⟩, rfl, hYF0ξ⟩ (fun al halξ rna511ξ Pa511 Ga511 hexta511ξ hfra511ξ hoka511ξ hcsa511ξ hpsia511ξ => ?_)
      obtain rfl := List.mem_singleton.mp halξ
      have hra511ξ := zp_int (hoka511ξ _ rfl).1
      obtain ⟨hPea511ξ, ⟨Ma511, hMa511ξ, hVa511ξ, hSba511ξ⟩, hta511ξ⟩ := hpsia511ξ
      subst hPea511ξ
      clear hexta511ξ hcsa511ξ hoka511ξ
      have hVa511ξ : ∀ o k, zNc o → Ma511 o k = (zf_an2 (zT_im c9ξ V) 0).2 o k := hVa511ξ
      have hta511ξ : rna511ξ = ((zf_an2 (zT_im c9ξ V) 0).1) := hta511ξ
      have hta511ξ := (Eq.symm hta511ξ)
      subst hta511ξ
      have hrvξ : ((zf_an2 (zT_im c9ξ V) 0).1) = 0 := by rfl
      refine zpn_iret (pc := 54) (n := ((zf_an2 (zT_im c9ξ V) 0).1)) hx hb hEξ hQξ hU5ξ rfl (by decide) (zd_X11_image (54, .ireturn, 1, 0, []) (List.mem_of_getElem? (i := 32) rfl)) (j := 0) rfl (zp_o0 (by rw [hrvξ]; omega) (by rw [hrvξ]; omega) (by rw [hrvξ]; omega) (by rw [hrvξ]; omega)) (by decide +kernel) (by decide +kernel) ?_
      rw [hpsξ]
      show (¬ (0 ≤ p1ξ ∧ p1ξ ≤ 1) ∧ u.1 = u.1 ∧ ((zf_an2 (zT_im c9ξ V) 0).1) = -1 ∧ zMVc A Y F (zf_rfs V (-1)).2 u.1 Ga511) ∨ ((0 ≤ p1ξ ∧ p1ξ ≤ 1) ∧ ((zf_an2 (zT_im c9ξ V) 0).1) = 0 ∧ ((∃ c, V 22 (2000 + p1ξ.toNat) = (A c : Int) ∧ zIM Y F c ∧ u.1 = u.1 ∧ zMVc A Y F (zf_ans (zT_im c V) 0).2 u.1 Ga511) ∨ (V 22 (2000 + p1ξ.toNat) = -1 ∧ ∃ (cp : Nat) (b : Nat → Nat) (V2 : Nat → Nat → Int), (∀ a t, u.1 a = some t → u.1 a = some t) ∧ (u.1 cp = none ∧ u.1 cp = some 93) ∧ (∀ q ∈ zTW, Ga511 cp q.1 = (b q.2.1 : Int) ∧ u.1 (b q.2.1) = some q.2.2 ∧ u.1 (b q.2.1) = none) ∧ (∀ i : Nat, i < 3 → Ga511 (b 2) i = (b (50 + i) : Int) ∧ u.1 (b (50 + i)) = some (17 + i) ∧ u.1 (b (50 + i)) = none) ∧ (∀ o k, 100 < o → zNy o → V2 o k = V (o - 100) k) ∧ (∀ o k, o < 100 → zNy o → Ga511 (zTwA cp b o) k = (zf_tcz V2).2 o k) ∧ zMVc A Y F (zf_ans (zp_set V 22 (2000 + p1ξ.toNat) (cp : Int)) 0).2 u.1 Ga511)))
      exact Or.inr ⟨by omega, hrvξ, Or.inl ⟨c9ξ, hc9ξ, hI9ξ, rfl, ⟨Ma511, hMa511ξ, hVa511ξ, trivial⟩⟩⟩
  · have hbf506ξ : ¬ (0 ≤ p1ξ ∧ p1ξ ≤ 1) := fun h9ξ => absurd ((Iff.mpr htn503ξ) h9ξ) (by omega)
    refine zpn_load (pc := 9) hx hb (zd_X11_image (9, .aload_n 0, 1, 0, []) (List.mem_of_getElem? (i := 5) rfl)) rfl (j := 0) rfl ?_
    refine zpn_const (pc := 10) hx hb (zd_X11_image (10, .iconst (-1), 1, 0, []) (List.mem_of_getElem? (i := 6) rfl)) rfl rfl ?_
    refine zpn_call (pc := 11) (how := 0) (idx := 111) (mi := 16) (S := []) hx hb hEξ hwξ heffξ hrmξ (zX_rfs hWξ A Y F V) rfl (j := 11) rfl rfl (by decide +kernel) (zd_X11_image (11, .invokevirtual 111, 3, 0, []) (List.mem_of_getElem? (i := 7) rfl)) [(A 0 : Int), (-1)] rfl ⟨zp_o2 (zM_P hMξ (hYbξ _ (List.mem_of_getElem? (i := 0) rfl))), zp_o0 (by omega) (by omega) (by omega) (by omega), trivial⟩ (Nat.le_of_ble_eq_true rfl) ⟨⟨M, hMξ, hVξ, trivial⟩, rfl, hYF0ξ⟩ (fun al halξ rna512ξ Pa512 Ga512 hexta512ξ hfra512ξ hoka512ξ hcsa512ξ hpsia512ξ => ?_)
    obtain rfl := List.mem_singleton.mp halξ
    have hra512ξ := zp_int (hoka512ξ _ rfl).1
    obtain ⟨hPea512ξ, ⟨Ma512, hMa512ξ, hVa512ξ, hSba512ξ⟩, hta512ξ⟩ := hpsia512ξ
    subst hPea512ξ
    clear hexta512ξ hfra512ξ hcsa512ξ hoka512ξ
    have hVa512ξ : ∀ o k, zNc o → Ma512 o k = (zf_rfs V (-1)).2 o k := hVa512ξ
    have hta512ξ : rna512ξ = ((zf_rfs V (-1)).1) := hta512ξ
    have hta512ξ := (Eq.symm hta512ξ)
    subst hta512ξ
    have hrvξ : ((zf_rfs V (-1)).1) = -1 := by unfold zf_rfs; rw [if_neg (by decide), if_neg (by decide), if_neg (by decide), if_neg (by decide), if_neg (by decide), if_pos rfl]
    refine zpn_iret (pc := 14) (n := ((zf_rfs V (-1)).1)) hx hb hEξ hQξ hU5ξ rfl (by decide) (zd_X11_image (14, .ireturn, 1, 0, []) (List.mem_of_getElem? (i := 8) rfl)) (j := 0) rfl (zp_o0 (by rw [hrvξ]; omega) (by rw [hrvξ]; omega) (by rw [hrvξ]; omega) (by rw [hrvξ]; omega)) (by decide +kernel) (by decide +kernel) ?_
    rw [hpsξ]
    show (¬ (0 ≤ p1ξ ∧ p1ξ ≤ 1) ∧ u.1 = u.1 ∧ ((zf_rfs V (-1)).1) = -1 ∧ zMVc A Y F (zf_rfs V (-1)).2 u.1 Ga512) ∨ ((0 ≤ p1ξ ∧ p1ξ ≤ 1) ∧ ((zf_rfs V (-1)).1) = 0 ∧ ((∃ c, V 22 (2000 + p1ξ.toNat) = (A c : Int) ∧ zIM Y F c ∧ u.1 = u.1 ∧ zMVc A Y F (zf_ans (zT_im c V) 0).2 u.1 Ga512) ∨ (V 22 (2000 + p1ξ.toNat) = -1 ∧ ∃ (cp : Nat) (b : Nat → Nat) (V2 : Nat → Nat → Int), (∀ a t, u.1 a = some t → u.1 a = some t) ∧ (u.1 cp = none ∧ u.1 cp = some 93) ∧ (∀ q ∈ zTW, Ga512 cp q.1 = (b q.2.1 : Int) ∧ u.1 (b q.2.1) = some q.2.2 ∧ u.1 (b q.2.1) = none) ∧ (∀ i : Nat, i < 3 → Ga512 (b 2) i = (b (50 + i) : Int) ∧ u.1 (b (50 + i)) = some (17 + i) ∧ u.1 (b (50 + i)) = none) ∧ (∀ o k, 100 < o → zNy o → V2 o k = V (o - 100) k) ∧ (∀ o k, o < 100 → zNy o → Ga512 (zTwA cp b o) k = (zf_tcz V2).2 o k) ∧ zMVc A Y F (zf_ans (zp_set V 22 (2000 + p1ξ.toNat) (cp : Int)) 0).2 u.1 Ga512)))
    exact Or.inl ⟨by omega, rfl, hrvξ, ⟨Ma512, hMa512ξ, hVa512ξ, trivial⟩⟩
