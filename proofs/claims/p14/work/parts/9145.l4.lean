/-! part l4: the reference: orders over logical cells -/
/-- fields, arrays that the reading of orders writes -/
noncomputable def zo_rkq (k : Nat) : Bool := [0, 13, 14, 15, 16, 17, 18, 19, 20, 21, 23, 26, 29, 30, 59].contains k
noncomputable def zo_rl : List Nat := [24, 25, 27, 28, 56]
noncomputable def zo_rf (a : Nat) (P : Nat → Option Nat) (G G' : Nat → Nat → Int) : Prop := (∀ k, k < 64 → zo_rkq k = false → G' a k = G a k) ∧ ∀ b t, P b = some t → t ≠ 92 → t ≠ 68 → t ≠ 69 → t ≠ 70 → t ≠ 71 → t ≠ 90 → ∀ k, G' b k = G b k
theorem zo_rf_i {a : Nat} {P : Nat → Option Nat} {G : Nat → Nat → Int} : zo_rf a P G G := ⟨fun _ _ _ => rfl, fun _ _ _ _ _ _ _ _ _ _ => rfl⟩
theorem zo_rf_s {a k : Nat} {v : Int} {P : Nat → Option Nat} {G G' : Nat → Nat → Int} (h : zo_rf a P G G') (hpξ : P a = some 92) (hkξ : zo_rkq k = true) : zo_rf a P G (zp_set G' a k v) :=
  ⟨fun k' h64ξ hk' => (zp_set_ne (Or.inr (fun e => by rw [e, hkξ] at hk'; cases hk'))).trans (h.1 k' h64ξ hk'), fun b t hb t0ξ t1 t2 t3 t4 t5 k' => (zp_set_ne (Or.inl (zp_pne hb hpξ t0ξ))).trans (h.2 b t hb t0ξ t1 t2 t3 t4 t5 k')⟩
noncomputable def zo_re (eff : List (Nat × Nat × Nat)) : Bool := eff.all fun e => (e.1 == 92 && zo_rkq e.2.1) || [68, 69, 70, 71, 90].contains e.1
theorem zo_rf_f {a : Nat} {P : Nat → Option Nat} {G G' G'' : Nat → Nat → Int} {eff : List (Nat × Nat × Nat)} {ps : List Int} (h : zo_rf a P G G') (hpξ : P a = some 92) (hfrξ : zp_fr eff ps P G' G'') (heξ : zo_re eff = true) : zo_rf a P G G'' := by
  refine ⟨fun k h64ξ hkξ => (zp_nf hfrξ hpξ ?_).trans (h.1 k h64ξ hkξ), fun b t hb t0ξ t1 t2 t3 t4 t5 k => (zp_nc hfrξ hb ?_ k).trans (h.2 b t hb t0ξ t1 t2 t3 t4 t5 k)⟩
  · unfold zp_nfb
    rw [Bool.and_eq_true, decide_eq_true_eq, List.all_eq_true]
    refine ⟨by omega, fun e h1ξ => ?_⟩
    have h2ξ := List.all_eq_true.mp heξ e h1ξ
    rw [Bool.or_eq_true, bne_iff_ne, bne_iff_ne]
    rw [Bool.or_eq_true, Bool.and_eq_true, beq_iff_eq] at h2ξ
    rcases h2ξ with ⟨-, h2ξ⟩ | h2ξ
    · exact Or.inr (fun e9ξ => by rw [e9ξ, hkξ] at h2ξ; cases h2ξ)
    · refine Or.inl (fun e9ξ => ?_)
      rw [e9ξ] at h2ξ
      exact absurd h2ξ (by decide)
  · unfold zp_ncb
    rw [List.all_eq_true]
    intro e h1ξ
    have h2ξ := List.all_eq_true.mp heξ e h1ξ
    rw [bne_iff_ne]
    rw [Bool.or_eq_true, Bool.and_eq_true, beq_iff_eq] at h2ξ
    intro e9ξ
    rcases h2ξ with ⟨h2ξ, -⟩ | h2ξ
    · exact t0ξ (e9ξ.symm.trans h2ξ)
    · rw [e9ξ] at h2ξ
      have h3ξ : t = 68 ∨ t = 69 ∨ t = 70 ∨ t = 71 ∨ t = 90 := by simpa using h2ξ
      omega
/-- with what the beginning sets -/
noncomputable def zo_rg (a : Nat) (P : Nat → Option Nat) (G G' : Nat → Nat → Int) : Prop := zo_rf a P G G' ∧ G' a 0 = 0 ∧ G' a 59 = -1
theorem zo_rg_f {a : Nat} {P : Nat → Option Nat} {G G' G'' : Nat → Nat → Int} {eff : List (Nat × Nat × Nat)} {ps : List Int} (h : zo_rg a P G G') (hpξ : P a = some 92) (hfrξ : zp_fr eff ps P G' G'') (heξ : (zo_re eff && (zp_nfb eff 92 0 && zp_nfb eff 92 59)) = true) : zo_rg a P G G'' := by
  simp only [Bool.and_eq_true] at heξ
  obtain ⟨e1, e2, e3⟩ := heξ
  exact ⟨zo_rf_f h.1 hpξ hfrξ e1, (zp_nf hfrξ hpξ e2).trans h.2.1, (zp_nf hfrξ hpξ e3).trans h.2.2⟩
theorem zo_rdM {A : Nat → Nat} {V M : Nat → Nat → Int} {P : Nat → Option Nat} {G G' : Nat → Nat → Int} (h1ξ : zM A zYq zFq M P G) (h2ξ : ∀ o k, zNs o k → M o k = V o k) (h3ξ : zSb M) (hfξ : zo_rf (A 0) P G G') : ∃ V1, zMVq A V1 P G' ∧ (∀ o k, (o ≠ 0 ∨ (k < 64 ∧ zo_rkq k = false)) → o ∉ zo_rl → V1 o k = V o k) ∧ ∀ o k, ((o = 0 ∧ zo_rkq k = true) ∨ o ∈ zo_rl) → V1 o k = G' (A o) k := by
  have m0 : ((0, 92) : Nat × Nat) ∈ zYq := List.mem_cons_self
  refine ⟨fun o k => if (o = 0 ∧ zo_rkq k = true) ∨ o ∈ zo_rl then G' (A o) k else V o k, ⟨fun o k => G' (A o) k, ⟨fun q hqξ => ⟨(h1ξ.1 q hqξ).1, fun k => rfl⟩, fun r hrξ => ?_, h1ξ.2.2.1, h1ξ.2.2.2⟩, fun o k hkξ => ?_, fun j hjξ => ?_⟩, fun o k hoξ hlξ => ?_, fun o k hoξ => if_pos hoξ⟩
  · have h9ξ : (zFq.all fun r => r.1 == 0 && (decide (r.2.1 < 64) && !(zo_rkq r.2.1))) = true := by decide +kernel
    have h8ξ := List.all_eq_true.mp h9ξ r hrξ
    simp only [Bool.and_eq_true, beq_iff_eq, decide_eq_true_eq, Bool.not_eq_true'] at h8ξ
    have h7ξ := h1ξ.2.1 r hrξ
    show G' (A r.1) r.2.1 = _
    rw [h8ξ.1] at h7ξ ⊢
    exact (hfξ.1 _ h8ξ.2.1 h8ξ.2.2).trans (((h1ξ.1 _ m0).2 _).trans h7ξ)
  · show G' (A o) k = if (o = 0 ∧ zo_rkq k = true) ∨ o ∈ zo_rl then G' (A o) k else V o k
    by_cases c : (o = 0 ∧ zo_rkq k = true) ∨ o ∈ zo_rl
    · rw [if_pos c]
    · rw [if_neg c]
      refine Eq.trans ?_ (h2ξ o k hkξ)
      rcases hkξ with hkξ | ⟨rfl, hkξ⟩
      · have h9ξ : (zNl.all fun o => zo_rl.contains o || zYq.any fun q => q.1 == o && (q.2 != 92 && (q.2 != 68 && (q.2 != 69 && (q.2 != 70 && (q.2 != 71 && q.2 != 90)))))) = true := by decide +kernel
        have h8ξ := List.all_eq_true.mp h9ξ o hkξ
        rw [Bool.or_eq_true] at h8ξ
        rcases h8ξ with h8ξ | h8ξ
        · exact absurd (Or.inr (List.contains_iff_mem.mp h8ξ)) c
        · obtain ⟨q, q1, q2⟩ := List.any_eq_true.mp h8ξ
          simp only [Bool.and_eq_true, beq_iff_eq, bne_iff_ne] at q2
          obtain ⟨q2, t0ξ, t1, t2, t3, t4, t5⟩ := q2
          have h7ξ := h1ξ.1 q q1
          rw [q2] at h7ξ
          exact (hfξ.2 _ _ h7ξ.1 t0ξ t1 t2 t3 t4 t5 k).trans (h7ξ.2 k)
      · have hzξ : zo_rkq k = false := by
          cases hcξ : zo_rkq k with
          | true => exact absurd (Or.inl ⟨rfl, hcξ⟩) c
          | false => rfl
        exact (hfξ.1 k hkξ.1 hzξ).trans ((h1ξ.1 _ m0).2 k)
  · have h7ξ := h1ξ.1 (35, 75) (List.mem_of_getElem? (i := 18) rfl)
    have h8ξ : G' (A 35) (2000 + j) = M 35 (2000 + j) := (hfξ.2 _ _ h7ξ.1 (by decide) (by decide) (by decide) (by decide) (by decide) (by decide) _).trans (h7ξ.2 _)
    show -2147483648 ≤ G' (A 35) (2000 + j) ∧ G' (A 35) (2000 + j) ≤ 2147483648
    rw [h8ξ]
    exact h3ξ j hjξ
  · refine if_neg (fun c => ?_)
    rcases c with ⟨c1, c2⟩ | c
    · rcases hoξ with hoξ | hoξ
      · exact hoξ c1
      · rw [hoξ.2] at c2
        cases c2
    · exact hlξ c
/-- behind the reading of orders -/
noncomputable def zo_rd (V V1 : Nat → Nat → Int) : Prop := (∀ o k, (o ≠ 0 ∨ (k < 64 ∧ zo_rkq k = false)) → o ∉ zo_rl → V1 o k = V o k) ∧ V1 0 0 = 0 ∧ V1 0 13 = 0 ∧ V1 0 59 = -1 ∧ V1 0 20 = 0 ∧ 0 ≤ V1 0 30
theorem zRI_rd {V V1 : Nat → Nat → Int} {nuξ n1ξ npξ : Nat} {Lwξ : List yK} (h : zo_rd V V1) (hIξ : zRI V nuξ n1ξ npξ Lwξ) : zRI V1 nuξ n1ξ npξ Lwξ :=
  zRI_e (fun k => h.1 3 k (Or.inl (by decide)) (by decide)) (h.1 0 8 (Or.inr (by decide)) (by decide)) (h.1 0 47 (Or.inr (by decide)) (by decide)) (h.2.2.2.2.1.trans hIξ.1.2.2.2.2.symm) hIξ
theorem zOc_K {V : Nat → Nat → Int} {N c : Nat} {K : yK} (hNξ : N ≤ 400) (h : zOc (fun j => V 56 (2000 + j)) (fun j => V 24 (2000 + j)) (fun j => V 25 (2000 + j)) N c K) : zo_K V (8 * c) K ∧ V 56 (2000 + (8 * c + 7)) = K.2.2.2.1 ∧ 1 ≤ K.2.2.2.1 ∧ K.2.2.2.1 ≤ 20 := by
  obtain ⟨h1ξ, h2ξ, h3ξ, h4ξ, h5ξ⟩ := h
  have hpξ : ∀ {i : Nat} {x : yD}, zLp (fun j => V 24 (2000 + j)) (fun j => V 25 (2000 + j)) N (V 56 (2000 + i)) (V 56 (2000 + (i + 1))) x → zo_sq V i (some x) := fun {i x} hlξ => by
    obtain ⟨b, e, k, f, g1, g2, g3, g4, g5⟩ := hlξ
    exact Or.inr ⟨x, b, e, k, f, rfl, g1, g2, by omega, by omega, g5⟩
  refine ⟨⟨h1ξ, ?_, ?_, ?_⟩, h4ξ⟩
  · rcases h2ξ with ⟨-, z, z1, z2⟩ | ⟨x, -, z, z1⟩
    · rw [z]
      exact Or.inl ⟨rfl, z1.trans z2.symm⟩
    · rw [z]
      exact hpξ z1
  · rcases h3ξ with ⟨-, z, z1, z2⟩ | ⟨x, -, z, z1⟩
    · rw [z]
      exact Or.inl ⟨rfl, z1.trans z2.symm⟩
    · rw [z]
      exact hpξ z1
  · rcases h5ξ with ⟨z, z1, -⟩ | ⟨x, z, z1, -⟩
    · rw [z]
      exact Or.inl ⟨rfl, z1⟩
    · rw [z]
      exact hpξ z1
/-- a clause is run as often as it says; all clauses -/
noncomputable def zo_tm (n1ξ npξ : Nat) (Lwξ : List yK) (K : yK) : Nat → (Nat → Nat → Int) → Bool × (Nat → Nat → Int)
  | 0, V => (true, V)
  | t + 1, V => if (zo_run V (V 0 8).toNat n1ξ npξ Lwξ K).1 < 0 then (false, (zo_run V (V 0 8).toNat n1ξ npξ Lwξ K).2) else zo_tm n1ξ npξ Lwξ K t (zo_run V (V 0 8).toNat n1ξ npξ Lwξ K).2
noncomputable def zo_cs (n1ξ npξ : Nat) (Lwξ : List yK) : List yK → Nat → (Nat → Nat → Int) → Int × (Nat → Nat → Int)
  | [], _, V => (-1, V)
  | K :: r, i, V => if (zo_tm n1ξ npξ Lwξ K K.2.2.2.1.toNat V).1 = true then zo_cs n1ξ npξ Lwξ r (i + 1) (zo_tm n1ξ npξ Lwξ K K.2.2.2.1.toNat V).2 else ((i : Int), (zo_tm n1ξ npξ Lwξ K K.2.2.2.1.toNat V).2)
/-- what stands is kept ahead of orders; all is given back -/
noncomputable def zo_be (V : Nat → Nat → Int) : Nat → Nat → Int := zp_set (zp_set (zc_cp (zc_cp (zc_cp V 3 5 6 (34 * 17) 34) 6 0 9 0 544) 7 0 10 0 16) 0 57 0) 0 58 (-1)
noncomputable def zo_gb (V : Nat → Nat → Int) (nuξ : Int) : Nat → Nat → Int := zp_set (zc_cp (zc_cp (zc_cp V 6 (34 * 17) 3 5 34) 9 0 6 0 544) 10 0 7 0 16) 0 8 nuξ
noncomputable def zo_all (V : Nat → Nat → Int) (nuξ n1ξ npξ : Nat) (Lwξ L : List yK) : Int × (Nat → Nat → Int) :=
  if (zo_cs n1ξ npξ Lwξ L 0 (zo_be V)).1 < 0 then ((zo_cs n1ξ npξ Lwξ L 0 (zo_be V)).2 0 57, zT_tell (zo_cs n1ξ npξ Lwξ L 0 (zo_be V)).2 ((zo_cs n1ξ npξ Lwξ L 0 (zo_be V)).2 0 57))
  else (-3, zT_tell (zp_set (zo_gb (zo_cs n1ξ npξ Lwξ L 0 (zo_be V)).2 nuξ) 0 59 (zo_cs n1ξ npξ Lwξ L 0 (zo_be V)).1) (-3))
theorem zMVq_cg {A : Nat → Nat} {V V' : Nat → Nat → Int} {P : Nat → Option Nat} {G : Nat → Nat → Int} (h : zMVq A V P G) (e : V = V') : zMVq A V' P G := e ▸ h
theorem zo_be_o {V : Nat → Nat → Int} {o k : Nat} (h6ξ : o ≠ 6) (h9ξ : o ≠ 9) (h10ξ : o ≠ 10) (h0ξ : o ≠ 0 ∨ (k ≠ 57 ∧ k ≠ 58)) : zo_be V o k = V o k := by
  unfold zo_be
  rw [zp_set_ne (by omega), zp_set_ne (by omega), zc_cp_o h10ξ, zc_cp_o h9ξ, zc_cp_o h6ξ]
/-- 60 is no one's business -/
theorem zo_run_b {V : Nat → Nat → Int} {nuξ n1ξ npξ : Nat} {Lwξ : List yK} {K : yK} (h57ξ : 0 ≤ V 0 57) (hdξ : ∀ a b : Int, (zo_do (zo_hd V) nuξ n1ξ npξ Lwξ K.1 a b).1 ≤ 2147483647) (h58ξ : -2147483648 ≤ V 0 58 ∧ V 0 58 ≤ 2147483647) : (0 ≤ (zo_run V nuξ n1ξ npξ Lwξ K).2 0 57 ∧ (zo_run V nuξ n1ξ npξ Lwξ K).2 0 57 ≤ V 0 57 + 1) ∧ -2147483648 ≤ (zo_run V nuξ n1ξ npξ Lwξ K).2 0 58 ∧ (zo_run V nuξ n1ξ npξ Lwξ K).2 0 58 ≤ 2147483647 := by
  have a57 : zo_hd V 0 57 = V 0 57 := zo_hd_o (by decide) (Or.inr (by decide))
  have a58 : zo_hd V 0 58 = V 0 58 := zo_hd_o (by decide) (Or.inr (by decide))
  unfold zo_run
  split
  · split
    · rename_i a b _ _
      have d57 : (zo_do (zo_hd V) nuξ n1ξ npξ Lwξ K.1 a b).2 0 57 = V 0 57 := (zo_kp_do 0 57 (by decide) (by decide) (by decide) (Or.inr (by decide))).trans a57
      have d58 : (zo_do (zo_hd V) nuξ n1ξ npξ Lwξ K.1 a b).2 0 58 = V 0 58 := (zo_kp_do 0 58 (by decide) (by decide) (by decide) (Or.inr (by decide))).trans a58
      have hd9ξ := hdξ a b
      split
      · show (0 ≤ (zo_do (zo_hd V) nuξ n1ξ npξ Lwξ K.1 a b).2 0 57 ∧ (zo_do (zo_hd V) nuξ n1ξ npξ Lwξ K.1 a b).2 0 57 ≤ V 0 57 + 1) ∧ -2147483648 ≤ (zo_do (zo_hd V) nuξ n1ξ npξ Lwξ K.1 a b).2 0 58 ∧ (zo_do (zo_hd V) nuξ n1ξ npξ Lwξ K.1 a b).2 0 58 ≤ 2147483647
        omega
      · rename_i hn9ξ
        refine ⟨?_, ?_⟩
        · dsimp only
          rw [zp_set_self]
          omega
        · dsimp only
          rw [zp_set_ne (Or.inr (by decide)), zp_set_self]
          split <;> omega
    · show (0 ≤ zo_hd V 0 57 ∧ zo_hd V 0 57 ≤ V 0 57 + 1) ∧ -2147483648 ≤ zo_hd V 0 58 ∧ zo_hd V 0 58 ≤ 2147483647
      omega
  · show (0 ≤ zo_hd V 0 57 ∧ zo_hd V 0 57 ≤ V 0 57 + 1) ∧ -2147483648 ≤ zo_hd V 0 58 ∧ zo_hd V 0 58 ≤ 2147483647
    omega
section ZPL4
variable {p : Program} {l : Launch} {e : Env} {R : Room} {s : State} {m : MethodId} {args : Array Value} {below : List Frame} {meth : Method} {c : Code} {Q : State → Prop}
variable {cc : ByteArray} {w : zk_W} {u : zk_M} {Ts : List Jvm.Cond} {own : String}
variable {xs : List Nat} {pc : Nat} {L : List (Nat × Nat × Int)} {S : List (Nat × Int)}
/-- what an array's type tells of its numbers -/
theorem zp_knA {P : Nat → Option Nat} {G : Nat → Nat → Int} (hwξ : w.1 = zt_types) {a t len x : Nat} {lo hi : Int} (haξ : zp_ia 1 t = some (len, 0, x, lo, hi)) (hpξ : P a = some t) (kk : (∀ j, j < len → lo ≤ G a (2000 + j) ∧ G a (2000 + j) ≤ hi) → zp_J p l e R s m args below meth c Q w u xs pc L S P G) : zp_J p l e R s m args below meth c Q w u xs pc L S P G := by
  intro F H locs ls hFξ hIξ hLξ hkLξ hkSξ
  refine kk (fun j hjξ => ?_) F H locs ls hFξ hIξ hLξ hkLξ hkSξ
  have r := zp_int (zp_ia_rd hIξ.1 hwξ (Or.inl rfl) haξ hpξ hjξ)
  rw [hFξ] at r
  exact r
end ZPL4
theorem zf_wea_8u {V : Nat → Nat → Int} {L : List yK} {t : Int} : (zf_wea V L t).2 3 (2000 + 8) ≤ 2147483647 := by
  rw [zf_wea_8]
  omega
theorem zRI_be {V : Nat → Nat → Int} {nuξ n1ξ npξ : Nat} {Lwξ : List yK} (h : zRI V nuξ n1ξ npξ Lwξ) : zRI (zo_be V) nuξ n1ξ npξ Lwξ :=
  zRI_e (fun k => zo_be_o (by decide) (by decide) (by decide) (Or.inl (by decide))) (zo_be_o (by decide) (by decide) (by decide) (Or.inr (by decide))) (zo_be_o (by decide) (by decide) (by decide) (Or.inr (by decide))) (zo_be_o (by decide) (by decide) (by decide) (Or.inr (by decide))) h
theorem zp_set_60c {V : Nat → Nat → Int} {k : Nat} {v z : Int} (h : k ≠ 60) : zp_set (zp_set V 0 k v) 0 60 z = zp_set (zp_set V 0 60 z) 0 k v := by
  funext o' k'
  unfold zp_set
  by_cases c1 : o' = 0 ∧ k' = 60
  · rw [if_pos c1, if_neg (by omega), if_pos c1]
  · rw [if_neg c1, if_neg c1]
theorem zp_set_o {V : Nat → Nat → Int} {o k o2 k2 : Nat} {v v2 : Int} (h : o ≠ o2 ∨ k ≠ k2) : zp_set (zp_set V o k v) o2 k2 v2 = zp_set (zp_set V o2 k2 v2) o k v := by
  funext o' k'
  unfold zp_set
  by_cases c1 : o' = o ∧ k' = k
  · rw [if_pos c1, if_neg (by omega), if_pos c1]
  · rw [if_neg c1, if_neg c1]
theorem zc_cp_60 {V : Nat → Nat → Int} {o1 b1 o2 b2 n : Nat} {z : Int} (h1ξ : o1 ≠ 0) (h2ξ : o2 ≠ 0) : zc_cp (zp_set V 0 60 z) o1 b1 o2 b2 n = zp_set (zc_cp V o1 b1 o2 b2 n) 0 60 z := by
  funext o' k'
  by_cases c : o' = 0 ∧ k' = 60
  · rw [c.1, c.2, zp_set_self, zc_cp_o (Ne.symm h2ξ), zp_set_self]
  · rw [zp_set_ne (by omega)]
    unfold zc_cp
    split
    · exact zp_set_ne (Or.inl h1ξ)
    · exact zp_set_ne (by omega)
theorem zo_gb_60 {V : Nat → Nat → Int} {nuξ : Int} {z : Int} : zo_gb (zp_set V 0 60 z) nuξ = zp_set (zo_gb V nuξ) 0 60 z := by
  unfold zo_gb
  rw [zc_cp_60 (by decide) (by decide), zc_cp_60 (by decide) (by decide), zc_cp_60 (by decide) (by decide), zp_set_60c (by decide)]
theorem zo_gb_0 {V : Nat → Nat → Int} {nuξ : Int} {k : Nat} (h : k ≠ 8) : zo_gb V nuξ 0 k = V 0 k := by
  unfold zo_gb
  rw [zp_set_ne (Or.inr h), zc_cp_o (by decide), zc_cp_o (by decide), zc_cp_o (by decide)]
theorem zT_tell_60 {V : Nat → Nat → Int} {v z : Int} : zT_tell (zp_set V 0 60 z) v = zp_set (zT_tell V v) 0 60 z := by
  unfold zT_tell
  split
  · rw [show zp_set V 0 60 z 2 (2000 + (-v).toNat) = V 2 (2000 + (-v).toNat) from zp_set_ne (Or.inl (by decide)), zp_set_o (o := 2) (Or.inl (by decide)), zp_set_60c (by decide)]
  · exact (zp_set_60c (by decide)).symm
theorem zo_do_b {V : Nat → Nat → Int} {nuξ n1ξ npξ : Nat} {Lwξ : List yK} {k : Int} (h : zRI V nuξ n1ξ npξ Lwξ) (a b : Int) : (zo_do (zo_hd V) nuξ n1ξ npξ Lwξ k a b).1 ≤ 2147483647 := by
  have hhξ := zRI_hd h
  have hlξ := hhξ.1.1
  unfold zo_do
  split
  · unfold zf_wnn
    repeat' split
    all_goals first | decide | (dsimp only; omega) | (dsimp only; done) | exact zf_wea_8u
  · split
    · unfold zf_kyn
      repeat' split
      all_goals first | decide | (dsimp only; omega) | (dsimp only; done) | (have hp9ξ := hhξ.2.2.1.2.1; have h9ξ := hlξ (3 * a.toNat + 13) (by omega); have h8ξ : 0 ≤ zo_hd V 3 (2000 + (3 * a.toNat + 13)) ∧ zo_hd V 3 (2000 + (3 * a.toNat + 13)) ≤ 9 := hhξ.2.2.1.2.2.2.2.2 a.toNat (by omega); show zo_hd V 3 (2000 + (3 * a.toNat + 13)) + b ≤ 2147483647; omega)
    · split
      · unfold zf_rnn
        repeat' split
        all_goals first | decide | (dsimp only; omega) | (dsimp only; done) | (show zc_ct _ n1ξ ≤ 2147483647; have h9ξ := (zc_ctb (X := zd_X (zT_rem (zo_hd V) 2 nuξ) n1ξ npξ Lwξ ((zT_rem (zo_hd V) 2 nuξ) 3 (2000 + 10))) (w := n1ξ)).2; have h8ξ := hhξ.2.2.1.1; omega)
      · unfold zf_mnn
        repeat' split
        all_goals first | decide | (dsimp only; omega) | (dsimp only; done) | (show max 0 (min 9999 _) ≤ 2147483647; omega)
theorem zX_kalq {l : Launch} {w : zk_W} (hWξ : zh_W w) (A : Nat → Nat) (V : Nat → Nat → Int) (k1ξ : Nat) (h20ξ : V 0 20 = 0) : zk_metX l w zt_dv zt_TB (zp_swK zK_kal 13 92) (zp_A (fun P G ps => zMVq A V P G ∧ ps.getD 0 0 = (A 0 : Int) ∧ ps.getD 1 0 = (k1ξ : Int))) (zp_B (fun P _ _ P' G' _ => P' = P ∧ zMVq A (zc_cp V 3 5 6 (34 * k1ξ) 34) P' G')) ∧ zk_cok w zt_TB (zp_swK zK_kal 13 92) :=
  zs_V0 (ρ := fun ps => ps.getD 1 0 = (k1ξ : Int)) (V' := fun _ => zc_cp V 3 5 6 (34 * k1ξ) 34) hWξ h20ξ (zX_kal hWξ A V k1ξ) (by decide +kernel)
theorem zX_pubq {l : Launch} {w : zk_W} (hWξ : zh_W w) (A : Nat → Nat) (V : Nat → Nat → Int) (k1ξ : Nat) (h20ξ : V 0 20 = 0) : zk_metX l w zt_dv zt_TB (zp_swK zK_pub 13 92) (zp_A (fun P G ps => zMVq A V P G ∧ ps.getD 0 0 = (A 0 : Int) ∧ ps.getD 1 0 = (k1ξ : Int))) (zp_B (fun P _ _ P' G' _ => P' = P ∧ zMVq A (zc_cp V 6 (34 * k1ξ) 3 5 34) P' G')) ∧ zk_cok w zt_TB (zp_swK zK_pub 13 92) :=
  zs_V0 (ρ := fun ps => ps.getD 1 0 = (k1ξ : Int)) (V' := fun _ => zc_cp V 6 (34 * k1ξ) 3 5 34) hWξ h20ξ (zX_pub hWξ A V k1ξ) (by decide +kernel)
theorem zX_tllq {l : Launch} {w : zk_W} (hWξ : zh_W w) (A : Nat → Nat) (V : Nat → Nat → Int) (h20ξ : V 0 20 = 0) : zk_metX l w zt_dv zt_TB (zp_swK zK_tll 13 92) (zp_A (fun P G ps => zMVq A V P G ∧ ps.getD 0 0 = (A 0 : Int) ∧ -6 ≤ ps.getD 1 0)) (zp_B (fun P _ ps P' G' rn => P' = P ∧ zMVq A (zT_tell V (ps.getD 1 0)) P' G' ∧ rn = ps.getD 1 0)) ∧ zk_cok w zt_TB (zp_swK zK_tll 13 92) :=
  zs_V (ρ := fun ps => -6 ≤ ps.getD 1 0) (V' := fun ps => zT_tell V (ps.getD 1 0)) (σ := fun ps rn => rn = ps.getD 1 0) hWξ h20ξ (zX_tll hWξ A V) (by decide +kernel)
noncomputable def zK_gbq : zk_K := (zt_mn 292, prog_14_method_113_code, 3, (Option.none : Option Jvm.ClassFile.FieldType), 1, 12, [(2, 92, 0, 0), (0, 0, 0, 16)], [(none, [])], zUQ, (2, 120, 0, 0))
noncomputable def zφ_gbq (A : Nat → Nat) (V : Nat → Nat → Int) : (Nat → Option Nat) → (Nat → Nat → Int) → List Int → Prop := fun P G ps => zMVq A V P G ∧ ps.getD 0 0 = (A 0 : Int) ∧ V 0 20 = 0
noncomputable def zψ_gbq (A : Nat → Nat) (V : Nat → Nat → Int) : (Nat → Option Nat) → (Nat → Nat → Int) → List Int → (Nat → Option Nat) → (Nat → Nat → Int) → Int → Prop := fun P G ps P' G' rn => P' = P ∧ zMVq A (zo_gb V (ps.getD 1 0)) P' G'
theorem zX_gbq {l : Launch} {w : zk_W} (hWξ : zh_W w) (A : Nat → Nat) (V : Nat → Nat → Int) : zk_metX l w zt_dv zt_TB zK_gbq (zp_A (zφ_gbq A V)) (zp_B (zψ_gbq A V)) ∧ zk_cok w zt_TB zK_gbq := by
  refine zp_methX (cn := "WoundTownModel") zp_lkall hWξ (pl := 2029) rfl (by decide +kernel) (fun p e R s m args below meth c Q u hx hb hEξ hQξ hU5ξ heffξ hnLξ hokξ hφ => ?_)
  have hwξ := hWξ.1
  obtain ⟨p0ξ, p1ξ, hpsξ, tk0, tk1⟩ := zp_ps2 hokξ
  have hrmξ : zk_Kr (zk_ev (zt_types, zp_lk, zt_dv, [], [], zp_lc, zK_gbq)) = zk_Kr zK_gbq := rfl
  rw [hpsξ] at hφ ⊢
  have hφ : zMVq A V u.1 (zp_n u.2.1) ∧ p0ξ = (A 0 : Int) ∧ V 0 20 = 0 := hφ
  obtain ⟨⟨M, hMξ, hVξ, hSbξ⟩, rfl, h20ξ⟩ := hφ
  have hi1ξ := zp_int tk1
  show zp_J p l e R s m args below meth c Q w u [] 0 [(0, 2, (A 0 : Int)), (1, 0, p1ξ)] [] u.1 (zp_n u.2.1)
  have loop2 : ∀ (r9ξ i9ξ : Nat) (G : Nat → Nat → Int), r9ξ + i9ξ = 16 → zMVq A (zc_cp (zc_cp (zc_cp V 6 (34 * 17) 3 5 34) 9 0 6 0 544) 10 0 7 0 i9ξ) u.1 G → zp_J p l e R s m args below meth c Q w u [] 35 [(2, 0, (i9ξ : Int)), (0, 2, (A 0 : Int)), (1, 0, p1ξ)] [] u.1 G := by
    intro r9ξ
    induction r9ξ with
    | zero =>
      intro i9ξ G hrξ hMV9ξ
      obtain rfl : i9ξ = 16 := by omega
      obtain ⟨M9ξ, hM9ξ, hV9ξ, hSb9ξ⟩ := hMV9ξ
      show zp_J p l e R s m args below meth c Q w u [] 35 [(2, 0, 16), (0, 2, (A 0 : Int)), (1, 0, p1ξ)] [] u.1 G
      refine zp_load (pc := 35) hx hb (zd_X12_giveBack (35, .iload_n 2, 1, 0, []) (List.mem_of_getElem? (i := 20) rfl)) rfl (j := 0) rfl ?_
      refine zp_const (pc := 36) hx hb (zd_X12_giveBack (36, .bipush 16, 2, 0, []) (List.mem_of_getElem? (i := 21) rfl)) rfl rfl ?_
      refine zp_icmp (pc := 38) (tgt := 59) hx hb (zd_X12_giveBack (38, .if_icmp .ge 21, 3, 0, []) (List.mem_of_getElem? (i := 22) rfl)) rfl (fun (hc367ξ : 16 ≤ (16 : Int)) => ?_) (fun (hc367ξ : ¬ (16 ≤ (16 : Int))) => ?_)
      · refine zp_load (pc := 59) hx hb (zd_X12_giveBack (59, .aload_n 0, 1, 0, []) (List.mem_of_getElem? (i := 33) rfl)) rfl (j := 1) rfl ?_
        refine zp_load (pc := 60) hx hb (zd_X12_giveBack (60, .iload_n 1, 1, 0, []) (List.mem_of_getElem? (i := 34) rfl)) rfl (j := 2) rfl ?_
        refine zp_putf (pc := 61) hx hb hEξ hwξ heffξ (zd_X12_giveBack (61, .putfield 167, 3, 0, []) (List.mem_of_getElem? (i := 35) rfl)) (j := 26) rfl rfl rfl (zM_P hM9ξ (List.mem_of_getElem? (i := 0) rfl)) (zp_o0 (by omega) (by omega) (by omega) (by omega)) ?_
        refine zp_vret (pc := 64) hx hb hEξ hQξ hU5ξ rfl (by decide) (zd_X12_giveBack (64, .return_, 1, 0, []) (List.mem_of_getElem? (i := 36) rfl)) (j := 0) rfl ?_
        rw [hpsξ]
        refine ⟨rfl, ?_⟩
        show zMVq A (zo_gb V p1ξ) u.1 _
        unfold zo_gb
        exact ⟨(zp_set M9ξ 0 8 p1ξ), (zM_set hM9ξ (List.mem_of_getElem? (i := 0) rfl) (by decide)), (zV_set hV9ξ), (zSb_set (by decide) hSb9ξ)⟩
      · exfalso
        omega
    | succ r9ξ ih =>
      intro i9ξ G hrξ hMV9ξ
      obtain ⟨M9ξ, hM9ξ, hV9ξ, hSb9ξ⟩ := hMV9ξ
      refine zp_load (pc := 35) hx hb (zd_X12_giveBack (35, .iload_n 2, 1, 0, []) (List.mem_of_getElem? (i := 20) rfl)) rfl (j := 0) rfl ?_
      refine zp_const (pc := 36) hx hb (zd_X12_giveBack (36, .bipush 16, 2, 0, []) (List.mem_of_getElem? (i := 21) rfl)) rfl rfl ?_
      refine zp_icmp (pc := 38) (tgt := 59) hx hb (zd_X12_giveBack (38, .if_icmp .ge 21, 3, 0, []) (List.mem_of_getElem? (i := 22) rfl)) rfl (fun (hc368ξ : 16 ≤ (i9ξ : Int)) => ?_) (fun (hc368ξ : ¬ (16 ≤ (i9ξ : Int))) => ?_)
      · exfalso
        omega
      · refine zp_load (pc := 41) hx hb (zd_X12_giveBack (41, .aload_n 0, 1, 0, []) (List.mem_of_getElem? (i := 23) rfl)) rfl (j := 1) rfl ?_
        refine zp_getf (n := (A 7 : Int)) (pc := 42) hx hb hEξ hwξ (zd_X12_giveBack (42, .getfield 26, 3, 0, []) (List.mem_of_getElem? (i := 24) rfl)) (j := 25) rfl rfl rfl (zM_P hM9ξ (List.mem_of_getElem? (i := 0) rfl)) ((zM_G hM9ξ (List.mem_of_getElem? (i := 0) rfl) 7).trans (zM_F hM9ξ (List.mem_of_getElem? (i := 5) rfl))) ?_
        refine zp_load (pc := 45) hx hb (zd_X12_giveBack (45, .iload_n 2, 1, 0, []) (List.mem_of_getElem? (i := 25) rfl)) rfl (j := 0) rfl ?_
        refine zp_load (pc := 46) hx hb (zd_X12_giveBack (46, .aload_n 0, 1, 0, []) (List.mem_of_getElem? (i := 26) rfl)) rfl (j := 1) rfl ?_
        refine zp_getf (n := (A 10 : Int)) (pc := 47) hx hb hEξ hwξ (zd_X12_giveBack (47, .getfield 32, 3, 0, []) (List.mem_of_getElem? (i := 27) rfl)) (j := 28) rfl rfl rfl (zM_P hM9ξ (List.mem_of_getElem? (i := 0) rfl)) ((zM_G hM9ξ (List.mem_of_getElem? (i := 0) rfl) 10).trans (zM_F hM9ξ (List.mem_of_getElem? (i := 7) rfl))) ?_
        refine zp_load (pc := 50) hx hb (zd_X12_giveBack (50, .iload_n 2, 1, 0, []) (List.mem_of_getElem? (i := 28) rfl)) rfl (j := 0) rfl ?_
        refine zp_iald (j := i9ξ) (v := ((zc_cp (zc_cp V 6 (34 * 17) 3 5 34) 9 0 6 0 544) 10 (2000 + i9ξ))) (pc := 51) hx hb hwξ (zd_X12_giveBack (51, .iaload, 1, 0, []) (List.mem_of_getElem? (i := 29) rfl)) (show zp_ia 1 65 = some (16, 0, 0, 0, 3) from rfl) (zM_P hM9ξ (List.mem_of_getElem? (i := 8) rfl)) (by omega) (by omega) (((zM_G hM9ξ (List.mem_of_getElem? (i := 8) rfl) (2000 + i9ξ)).trans (hV9ξ 10 (2000 + i9ξ) (Or.inl (by decide)))).trans (zc_cp_o (by decide))) (fun hk369ξ => ?_)
        have hk369bξ := zp_int hk369ξ
        clear hk369ξ
        refine zp_iast (j := i9ξ) (pc := 52) hx hb hwξ heffξ (zd_X12_giveBack (52, .iastore, 1, 0, []) (List.mem_of_getElem? (i := 30) rfl)) (show zp_ia 1 63 = some (16, 0, 0, 0, 3) from rfl) (zM_P hM9ξ (List.mem_of_getElem? (i := 6) rfl)) (by omega) (by omega) (zp_o0 (by omega) (by omega) (by omega) (by omega)) rfl ?_
        refine zp_iinc (L' := [(2, 0, ((i9ξ : Int) + 1)), (0, 2, (A 0 : Int)), (1, 0, p1ξ)]) (n := ((i9ξ : Int) + 1)) (pc := 53) hx hb hnLξ (zd_X12_giveBack (53, .iinc 2 1, 3, 0, []) (List.mem_of_getElem? (i := 31) rfl)) (j := 0) rfl (by omega) (zp_r0 (by omega) (by omega)) rfl rfl ?_
        refine zp_goto (tgt := 35) (pc := 56) hx hb (zd_X12_giveBack (56, .goto (-21), 3, 0, []) (List.mem_of_getElem? (i := 32) rfl)) rfl ?_
        refine zp_drop (L' := [(2, 0, ((i9ξ : Int) + 1)), (0, 2, (A 0 : Int)), (1, 0, p1ξ)]) (by simp) ?_
        refine ih (i9ξ + 1) _ (by omega) (zMVq_cg ⟨(zp_set M9ξ 7 (2000 + i9ξ) ((zc_cp (zc_cp V 6 (34 * 17) 3 5 34) 9 0 6 0 544) 10 (2000 + i9ξ))), (zM_setE hM9ξ (List.mem_of_getElem? (i := 6) rfl)), (zV_set hV9ξ), (zSb_set (by decide) hSb9ξ)⟩ ?_)
        rw [show (2000 + i9ξ : Nat) = 2000 + (0 + i9ξ) by omega]
        try rw [show ((zc_cp (zc_cp V 6 (34 * 17) 3 5 34) 9 0 6 0 544) 10 (2000 + i9ξ)) = (zc_cp (zc_cp V 6 (34 * 17) 3 5 34) 9 0 6 0 544) 10 (2000 + (0 + i9ξ)) from congrArg (fun z => (zc_cp (zc_cp V 6 (34 * 17) 3 5 34) 9 0 6 0 544) 10 (2000 + z)) (by omega)]
        exact zc_cp_s
  have loop1 : ∀ (r9ξ i9ξ : Nat) (G : Nat → Nat → Int), r9ξ + i9ξ = 544 → zMVq A (zc_cp (zc_cp V 6 (34 * 17) 3 5 34) 9 0 6 0 i9ξ) u.1 G → zp_J p l e R s m args below meth c Q w u [] 8 [(2, 0, (i9ξ : Int)), (0, 2, (A 0 : Int)), (1, 0, p1ξ)] [] u.1 G := by
    intro r9ξ
    induction r9ξ with
    | zero =>
      intro i9ξ G hrξ hMV9ξ
      obtain rfl : i9ξ = 544 := by omega
      obtain ⟨M9ξ, hM9ξ, hV9ξ, hSb9ξ⟩ := hMV9ξ
      show zp_J p l e R s m args below meth c Q w u [] 8 [(2, 0, 544), (0, 2, (A 0 : Int)), (1, 0, p1ξ)] [] u.1 G
      refine zp_load (pc := 8) hx hb (zd_X12_giveBack (8, .iload_n 2, 1, 0, []) (List.mem_of_getElem? (i := 5) rfl)) rfl (j := 0) rfl ?_
      refine zp_const (pc := 9) hx hb (zd_X12_giveBack (9, .sipush 544, 3, 0, []) (List.mem_of_getElem? (i := 6) rfl)) rfl rfl ?_
      refine zp_icmp (pc := 12) (tgt := 33) hx hb (zd_X12_giveBack (12, .if_icmp .ge 21, 3, 0, []) (List.mem_of_getElem? (i := 7) rfl)) rfl (fun (hc370ξ : 544 ≤ (544 : Int)) => ?_) (fun (hc370ξ : ¬ (544 ≤ (544 : Int))) => ?_)
      · refine zp_const (pc := 33) hx hb (zd_X12_giveBack (33, .iconst 0, 1, 0, []) (List.mem_of_getElem? (i := 18) rfl)) rfl rfl ?_
        refine zp_store (L' := [(2, 0, 0), (0, 2, (A 0 : Int)), (1, 0, p1ξ)]) (pc := 34) hx hb hnLξ (zd_X12_giveBack (34, .istore_n 2, 1, 0, []) (List.mem_of_getElem? (i := 19) rfl)) rfl rfl rfl ?_
        exact loop2 16 0 G (by omega) (zMVq_cg ⟨M9ξ, hM9ξ, hV9ξ, hSb9ξ⟩ zc_cp_0.symm)
      · exfalso
        omega
    | succ r9ξ ih =>
      intro i9ξ G hrξ hMV9ξ
      obtain ⟨M9ξ, hM9ξ, hV9ξ, hSb9ξ⟩ := hMV9ξ
      refine zp_load (pc := 8) hx hb (zd_X12_giveBack (8, .iload_n 2, 1, 0, []) (List.mem_of_getElem? (i := 5) rfl)) rfl (j := 0) rfl ?_
      refine zp_const (pc := 9) hx hb (zd_X12_giveBack (9, .sipush 544, 3, 0, []) (List.mem_of_getElem? (i := 6) rfl)) rfl rfl ?_
      refine zp_icmp (pc := 12) (tgt := 33) hx hb (zd_X12_giveBack (12, .if_icmp .ge 21, 3, 0, []) (List.mem_of_getElem? (i := 7) rfl)) rfl (fun (hc371ξ : 544 ≤ (i9ξ : Int)) => ?_) (fun (hc371ξ : ¬ (544 ≤ (i9ξ : Int))) => ?_)
      · exfalso
        omega
      · refine zp_load (pc := 15) hx hb (zd_X12_giveBack (15, .aload_n 0, 1, 0, []) (List.mem_of_getElem? (i := 8) rfl)) rfl (j := 1) rfl ?_
        refine zp_getf (n := (A 6 : Int)) (pc := 16) hx hb hEξ hwξ (zd_X12_giveBack (16, .getfield 23, 3, 0, []) (List.mem_of_getElem? (i := 9) rfl)) (j := 24) rfl rfl rfl (zM_P hM9ξ (List.mem_of_getElem? (i := 0) rfl)) ((zM_G hM9ξ (List.mem_of_getElem? (i := 0) rfl) 6).trans (zM_F hM9ξ (List.mem_of_getElem? (i := 4) rfl))) ?_
        refine zp_load (pc := 19) hx hb (zd_X12_giveBack (19, .iload_n 2, 1, 0, []) (List.mem_of_getElem? (i := 10) rfl)) rfl (j := 0) rfl ?_
        refine zp_load (pc := 20) hx hb (zd_X12_giveBack (20, .aload_n 0, 1, 0, []) (List.mem_of_getElem? (i := 11) rfl)) rfl (j := 1) rfl ?_
        refine zp_getf (n := (A 9 : Int)) (pc := 21) hx hb hEξ hwξ (zd_X12_giveBack (21, .getfield 29, 3, 0, []) (List.mem_of_getElem? (i := 12) rfl)) (j := 27) rfl rfl rfl (zM_P hM9ξ (List.mem_of_getElem? (i := 0) rfl)) ((zM_G hM9ξ (List.mem_of_getElem? (i := 0) rfl) 9).trans (zM_F hM9ξ (List.mem_of_getElem? (i := 6) rfl))) ?_
        refine zp_load (pc := 24) hx hb (zd_X12_giveBack (24, .iload_n 2, 1, 0, []) (List.mem_of_getElem? (i := 13) rfl)) rfl (j := 0) rfl ?_
        refine zp_ialdT (j := i9ξ) (v := ((zc_cp V 6 (34 * 17) 3 5 34) 9 (2000 + i9ξ))) (T := zt_types.getD 64 (0, 0, 0, [])) (pc := 25) hx hb hwξ (zd_X12_giveBack (25, .iaload, 1, 0, []) (List.mem_of_getElem? (i := 14) rfl)) rfl rfl (zl_k0_64 i9ξ) (zM_P hM9ξ (List.mem_of_getElem? (i := 7) rfl)) (by omega) (show i9ξ < 544 by omega) (((zM_G hM9ξ (List.mem_of_getElem? (i := 7) rfl) (2000 + i9ξ)).trans (hV9ξ 9 (2000 + i9ξ) (Or.inl (by decide)))).trans (zc_cp_o (by decide))) (fun hk372ξ => ?_)
        refine zp_iastT (j := i9ξ) (T := zt_types.getD 62 (0, 0, 0, [])) (pc := 26) hx hb hwξ heffξ (zd_X12_giveBack (26, .iastore, 1, 0, []) (List.mem_of_getElem? (i := 15) rfl)) rfl rfl (zl_k0_62 i9ξ) (zM_P hM9ξ (List.mem_of_getElem? (i := 5) rfl)) (by omega) (show i9ξ < 612 by omega) (by omega) (zl_cpo (zl_k0_64 _) (zl_k0_62 _) (zl_62_64 (by omega)) hk372ξ) (Or.inr ⟨by decide, by decide⟩) rfl ?_
        refine zp_iinc (L' := [(2, 0, ((i9ξ : Int) + 1)), (0, 2, (A 0 : Int)), (1, 0, p1ξ)]) (n := ((i9ξ : Int) + 1)) (pc := 27) hx hb hnLξ (zd_X12_giveBack (27, .iinc 2 1, 3, 0, []) (List.mem_of_getElem? (i := 16) rfl)) (j := 0) rfl (by omega) (zp_r0 (by omega) (by omega)) rfl rfl ?_
        refine zp_goto (tgt := 8) (pc := 30) hx hb (zd_X12_giveBack (30, .goto (-22), 3, 0, []) (List.mem_of_getElem? (i := 17) rfl)) rfl ?_
        refine zp_drop (L' := [(2, 0, ((i9ξ : Int) + 1)), (0, 2, (A 0 : Int)), (1, 0, p1ξ)]) (by simp) ?_
        refine ih (i9ξ + 1) _ (by omega) (zMVq_cg ⟨(zp_set M9ξ 6 (2000 + i9ξ) ((zc_cp V 6 (34 * 17) 3 5 34) 9 (2000 + i9ξ))), (zM_setE hM9ξ (List.mem_of_getElem? (i := 5) rfl)), (zV_set hV9ξ), (zSb_set (by decide) hSb9ξ)⟩ ?_)
        rw [show (2000 + i9ξ : Nat) = 2000 + (0 + i9ξ) by omega]
        try rw [show ((zc_cp V 6 (34 * 17) 3 5 34) 9 (2000 + i9ξ)) = (zc_cp V 6 (34 * 17) 3 5 34) 9 (2000 + (0 + i9ξ)) from congrArg (fun z => (zc_cp V 6 (34 * 17) 3 5 34) 9 (2000 + z)) (by omega)]
        exact zc_cp_s
  refine zp_load (pc := 0) hx hb (zd_X12_giveBack (0, .aload_n 0, 1, 0, []) (List.mem_of_getElem? (i := 0) rfl)) rfl (j := 0) rfl ?_
  refine zp_const (pc := 1) hx hb (zd_X12_giveBack (1, .bipush 17, 2, 0, []) (List.mem_of_getElem? (i := 1) rfl)) rfl rfl ?_
  refine zp_call (pc := 3) (how := 0) (idx := 178) (mi := 184) (S := []) hx hb hEξ hwξ heffξ hrmξ (zX_pubq hWξ A V 17 h20ξ) rfl (j := 1) rfl rfl (by decide +kernel) (zd_X12_giveBack (3, .invokevirtual 178, 3, 0, []) (List.mem_of_getElem? (i := 2) rfl)) [(A 0 : Int), 17] rfl ⟨zp_o2 (zM_P hMξ (List.mem_of_getElem? (i := 0) rfl)), zp_o0 (by decide) (by decide) (by decide) (by decide), trivial⟩ (Nat.le_of_ble_eq_true rfl) ⟨⟨M, hMξ, hVξ, hSbξ⟩, rfl, rfl⟩ (fun al halξ rnpb Ppb Gpb hextpbξ hfrpbξ hokpbξ hcspbξ hpsipbξ => ?_)
  obtain rfl := List.mem_singleton.mp halξ
  obtain ⟨hPepbξ, Mpb, hMpbξ, hVpbξ, hSbpbξ⟩ := hpsipbξ
  subst hPepbξ
  clear hextpbξ hfrpbξ hcspbξ hokpbξ
  have hVpbξ : ∀ o k, zNs o k → Mpb o k = (zc_cp V 6 (34 * 17) 3 5 34) o k := hVpbξ
  refine zp_const (pc := 6) hx hb (zd_X12_giveBack (6, .iconst 0, 1, 0, []) (List.mem_of_getElem? (i := 3) rfl)) rfl rfl ?_
  refine zp_store (L' := [(2, 0, 0), (0, 2, (A 0 : Int)), (1, 0, p1ξ)]) (pc := 7) hx hb hnLξ (zd_X12_giveBack (7, .istore_n 2, 1, 0, []) (List.mem_of_getElem? (i := 4) rfl)) rfl rfl rfl ?_
  refine zp_drop (L' := [(2, 0, 0), (0, 2, (A 0 : Int)), (1, 0, p1ξ)]) (by simp) ?_
  exact loop1 544 0 _ (by omega) (zMVq_cg ⟨Mpb, hMpbξ, hVpbξ, hSbpbξ⟩ zc_cp_0.symm)
/-- what comes of orders -/
noncomputable def zo_po (A : Nat → Nat) (V : Nat → Nat → Int) (ln nuξ n1ξ npξ : Nat) (B : Nat → Int) (Lwξ : List yK) (P' : Nat → Option Nat) (G' : Nat → Nat → Int) (rn : Int) : Prop := ∃ s V1, yT (zy_so B ln) (zy_wo B ln) (zy_to B ln) (yt_co (zy_so B ln) (zy_wo B ln) (zy_to B ln) (ylf true B ln)) 12 0 0 s ∧ zo_rd V V1 ∧ ((∃ q, s = Sum.inl q ∧ V1 0 18 = (zy_fr B ln q : Int) ∧ rn = -6 ∧ zMVq A (zT_tell V1 (-6)) P' G') ∨ ∃ (L : List yK) (z : Int), s = Sum.inr L ∧ V1 0 18 = -1 ∧ zMVq A (zp_set (zo_all V1 nuξ n1ξ npξ Lwξ L).2 0 60 z) P' G' ∧ rn = (zo_all V1 nuξ n1ξ npξ Lwξ L).1)
noncomputable def zK_orv : zk_K := (zt_mn 287, prog_14_method_112_code, 4, (Option.some Jvm.ClassFile.FieldType.int), 1, 12, [(2, 92, 0, 0)], [(some (0, 0, (-6), 2147483647), [])], zUQ, (30, 1400, 0, 0))
noncomputable def zφ_orv (A : Nat → Nat) (V : Nat → Nat → Int) (ln nuξ n1ξ npξ : Nat) (B : Nat → Int) (Lwξ : List yK) : (Nat → Option Nat) → (Nat → Nat → Int) → List Int → Prop := fun P G ps => zMVq A V P G ∧ ps.getD 0 0 = (A 0 : Int) ∧ V 0 13 = (ln : Int) ∧ ln ≤ 400 ∧ (∀ j, V 12 (2000 + j) = B j) ∧ (∀ j, 0 ≤ B j ∧ B j ≤ 255) ∧ 0 ≤ V 0 30 ∧ ((∀ k : Nat, k < 9 → V 31 (2000 + k) = ywd.getD k 0) ∧ ∀ k : Nat, k < 7 → V 32 (2000 + k) = ywo.getD k 0) ∧ zRI V nuξ n1ξ npξ Lwξ
noncomputable def zψ_orv (A : Nat → Nat) (V : Nat → Nat → Int) (ln nuξ n1ξ npξ : Nat) (B : Nat → Int) (Lwξ : List yK) : (Nat → Option Nat) → (Nat → Nat → Int) → List Int → (Nat → Option Nat) → (Nat → Nat → Int) → Int → Prop := fun P G ps P' G' rn => P' = P ∧ zo_po A V ln nuξ n1ξ npξ B Lwξ P' G' rn
set_option maxHeartbeats 16000000 in
theorem zX_orv {l : Launch} {w : zk_W} (hWξ : zh_W w) (A : Nat → Nat) (V : Nat → Nat → Int) (ln nuξ n1ξ npξ : Nat) (B : Nat → Int) (Lwξ : List yK) : zk_metX l w zt_dv zt_TB zK_orv (zp_A (zφ_orv A V ln nuξ n1ξ npξ B Lwξ)) (zp_B (zψ_orv A V ln nuξ n1ξ npξ B Lwξ)) ∧ zk_cok w zt_TB zK_orv := by
  refine zp_methX (cn := "WoundTownModel") zp_lkall hWξ (pl := 2003) rfl (by decide +kernel) (fun p e R s m args below meth c Q u hx hb hEξ hQξ hU5ξ heffξ hnLξ hokξ hφ => ?_)
  have hwξ := hWξ.1
  obtain ⟨p0ξ, hpsξ, tk0⟩ := zp_ps1 hokξ
  have hrmξ : zk_Kr (zk_ev (zt_types, zp_lk, zt_dv, [], [], zp_lc, zK_orv)) = zk_Kr zK_orv := rfl
  rw [hpsξ] at hφ ⊢
  have hφ : zMVq A V u.1 (zp_n u.2.1) ∧ p0ξ = (A 0 : Int) ∧ V 0 13 = (ln : Int) ∧ ln ≤ 400 ∧ (∀ j, V 12 (2000 + j) = B j) ∧ (∀ j, 0 ≤ B j ∧ B j ≤ 255) ∧ 0 ≤ V 0 30 ∧ ((∀ k : Nat, k < 9 → V 31 (2000 + k) = ywd.getD k 0) ∧ ∀ k : Nat, k < 7 → V 32 (2000 + k) = ywo.getD k 0) ∧ zRI V nuξ n1ξ npξ Lwξ := hφ
  obtain ⟨⟨M, hMξ, hVξ, hSbξ⟩, rfl, h13ξ, hl4ξ, h12ξ, hBξ, h30ξ, hwdξ, hRIξ⟩ := hφ
  show zp_J p l e R s m args below meth c Q w u [] 0 [(0, 2, (A 0 : Int))] [] u.1 (zp_n u.2.1)
  have h20ξ : V 0 20 = 0 := hRIξ.1.2.2.2.2
  have h64ξ : ∀ (L : List yK) (V1 : Nat → Nat → Int) (N : Nat) (G : Nat → Nat → Int), yT (zy_so B ln) (zy_wo B ln) (zy_to B ln) (yt_co (zy_so B ln) (zy_wo B ln) (zy_to B ln) (ylf true B ln)) 12 0 0 (Sum.inr L) → zo_rd V V1 → V1 0 18 = -1 → V1 0 21 = (L.length : Int) → L.length ≤ 12 → N ≤ 400 → zOs (fun j => V1 56 (2000 + j)) (fun j => V1 24 (2000 + j)) (fun j => V1 25 (2000 + j)) N 0 L → (∀ j, j < 400 → -2147483648 ≤ V1 25 (2000 + j) ∧ V1 25 (2000 + j) ≤ 2147483647) → zMVq A V1 u.1 G → zp_J p l e R s m args below meth c Q w u [] 64 [(0, 2, (A 0 : Int))] [] u.1 G := by
    intro L V1 N G hyTξ hrdξ h18ξ h21ξ hL12ξ hNξ hOsξ hA25ξ hMV0ξ
    have hRI1ξ := zRI_rd hrdξ hRIξ
    have h201ξ : V1 0 20 = 0 := hrdξ.2.2.2.2.1
    have hnuξ := hRI1ξ.2.1
    have hRIbξ : zRI (zo_be V1) nuξ n1ξ npξ Lwξ := zRI_be hRI1ξ
    have h140ξ : ∀ (r : List yK) (i nuX : Nat) (X : Nat → Nat → Int) (z : Int) (G : Nat → Nat → Int), i + r.length = L.length → zOs (fun j => V1 56 (2000 + j)) (fun j => V1 24 (2000 + j)) (fun j => V1 25 (2000 + j)) N i r → zRI X nuX n1ξ npξ Lwξ → (0 ≤ X 0 57 ∧ X 0 57 ≤ 20 * (i : Int)) → (-2147483648 ≤ X 0 58 ∧ X 0 58 ≤ 2147483647) → (∀ o k, o = 56 ∨ o = 24 ∨ o = 25 ∨ (o = 0 ∧ k = 21) → X o k = V1 o k) → zMVq A (zp_set X 0 60 z) u.1 G → zo_cs n1ξ npξ Lwξ L 0 (zo_be V1) = zo_cs n1ξ npξ Lwξ r i X → zp_J p l e R s m args below meth c Q w u [] 140 [(2, 0, (i : Int)), (1, 0, (nuξ : Int)), (0, 2, (A 0 : Int))] [] u.1 G := by
      intro r
      induction r with
      | nil =>
        intro i nuX X z G hi hOrξ hRXξ h57ξ h58ξ hfrξ hMVξ hfinξ
        have hi9ξ : i = L.length := by
          have e9ξ : ([] : List yK).length = 0 := rfl
          omega
        obtain ⟨Mn, hMnξ, hVMnξ, hSMnξ⟩ := hMVξ
        have h21Xξ : (zp_set X 0 60 z) 0 21 = (i : Int) := (zp_set_ne (Or.inr (by decide))).trans ((hfrξ 0 21 (Or.inr (Or.inr (Or.inr ⟨rfl, rfl⟩)))).trans (by rw [hi9ξ]; exact h21ξ))
        have h57Xξ : (zp_set X 0 60 z) 0 57 = X 0 57 := zp_set_ne (Or.inr (by decide))
        have h20Xξ : (zp_set X 0 60 z) 0 20 = 0 := (zp_set_ne (Or.inr (by decide))).trans hRXξ.1.2.2.2.2
        have h57iξ : X 0 57 ≤ 240 := by omega
        refine zp_load (pc := 140) hx hb (zd_X12_orders (140, .iload_n 2, 1, 0, []) (List.mem_of_getElem? (i := 76) rfl)) rfl (j := 0) rfl ?_
        refine zp_load (pc := 141) hx hb (zd_X12_orders (141, .aload_n 0, 1, 0, []) (List.mem_of_getElem? (i := 77) rfl)) rfl (j := 2) rfl ?_
        refine zp_getf (n := (i : Int)) (pc := 142) hx hb hEξ hwξ (zd_X12_orders (142, .getfield 371, 3, 0, []) (List.mem_of_getElem? (i := 78) rfl)) (j := 39) rfl rfl rfl (zM_P hMnξ (List.mem_of_getElem? (i := 0) rfl)) (((zM_G hMnξ (List.mem_of_getElem? (i := 0) rfl) 21).trans (hVMnξ 0 21 (Or.inr (by decide)))).trans h21Xξ) ?_
        refine zp_icmp (pc := 145) (tgt := 206) hx hb (zd_X12_orders (145, .if_icmp .ge 61, 3, 0, []) (List.mem_of_getElem? (i := 79) rfl)) rfl (fun (hc373ξ : (i : Int) ≤ (i : Int)) => ?_) (fun (hc373ξ : ¬ ((i : Int) ≤ (i : Int))) => ?_)
        · refine zp_load (pc := 206) hx hb (zd_X12_orders (206, .aload_n 0, 1, 0, []) (List.mem_of_getElem? (i := 112) rfl)) rfl (j := 2) rfl ?_
          refine zp_load (pc := 207) hx hb (zd_X12_orders (207, .aload_n 0, 1, 0, []) (List.mem_of_getElem? (i := 113) rfl)) rfl (j := 2) rfl ?_
          refine zp_getf (n := (X 0 57)) (pc := 208) hx hb hEξ hwξ (zd_X12_orders (208, .getfield 540, 3, 0, []) (List.mem_of_getElem? (i := 114) rfl)) (j := 75) rfl rfl rfl (zM_P hMnξ (List.mem_of_getElem? (i := 0) rfl)) (((zM_G hMnξ (List.mem_of_getElem? (i := 0) rfl) 57).trans (hVMnξ 0 57 (Or.inr (by decide)))).trans h57Xξ) ?_
          refine zp_kn (k := 57) (a := (A 0)) hwξ (show zp_fd 92 57 = some (12, 0, 0, (-2147483648), 2147483647) from rfl) rfl (zM_P hMnξ (List.mem_of_getElem? (i := 0) rfl)) (fun hf374ξ => ?_)
          have hf374bξ := zp_int hf374ξ
          rw [(((zM_G hMnξ (List.mem_of_getElem? (i := 0) rfl) 57).trans (hVMnξ 0 57 (Or.inr (by decide)))).trans h57Xξ)] at hf374bξ
          clear hf374ξ
          refine zp_call (pc := 211) (how := 0) (idx := 170) (mi := 183) (S := []) hx hb hEξ hwξ heffξ hrmξ (zX_tllq hWξ A (zp_set X 0 60 z) h20Xξ) rfl (j := 0) rfl rfl (by decide +kernel) (zd_X12_orders (211, .invokevirtual 170, 3, 0, []) (List.mem_of_getElem? (i := 115) rfl)) [(A 0 : Int), (X 0 57)] rfl ⟨zp_o2 (zM_P hMnξ (List.mem_of_getElem? (i := 0) rfl)), zp_o0 (by omega) (by omega) (by omega) (by omega), trivial⟩ (Nat.le_of_ble_eq_true rfl) ⟨⟨Mn, hMnξ, hVMnξ, hSMnξ⟩, rfl, (show -6 ≤ (X 0 57) by omega)⟩ (fun al halξ rnt Pt Gt hexttξ hfrtξ hoktξ hcstξ hpsitξ => ?_)
          obtain rfl := List.mem_singleton.mp halξ
          have hrtξ := zp_int (hoktξ _ rfl).1
          obtain ⟨hPetξ, ⟨Mt, hMtξ, hVtξ, hSbtξ⟩, httξ⟩ := hpsitξ
          subst hPetξ
          clear hexttξ hfrtξ hcstξ hoktξ
          have hVtξ : ∀ o k, zNs o k → Mt o k = (zT_tell (zp_set X 0 60 z) (X 0 57)) o k := hVtξ
          have httξ : rnt = (X 0 57) := httξ
          have httξ := (Eq.symm httξ)
          subst httξ
          refine zp_iret (pc := 214) (n := (X 0 57)) hx hb hEξ hQξ hU5ξ rfl (by decide) (zd_X12_orders (214, .ireturn, 1, 0, []) (List.mem_of_getElem? (i := 116) rfl)) (j := 0) rfl (zp_o0 (by omega) (by omega) (by omega) (by omega)) ?_
          rw [hpsξ]
          refine ⟨rfl, ?_⟩
          have hcsξ : zo_cs n1ξ npξ Lwξ L 0 (zo_be V1) = (-1, X) := hfinξ
          have hallξ : zo_all V1 nuξ n1ξ npξ Lwξ L = (X 0 57, zT_tell X (X 0 57)) := by
            unfold zo_all
            rw [hcsξ]
            rfl
          refine ⟨_, V1, hyTξ, hrdξ, Or.inr ⟨L, z, rfl, h18ξ, ?_, ?_⟩⟩
          · rw [hallξ]
            show zMVq A (zp_set (zT_tell X (X 0 57)) 0 60 z) u.1 _
            rw [← zT_tell_60]
            exact ⟨Mt, hMtξ, hVtξ, hSbtξ⟩
          · rw [hallξ]
        · exfalso
          omega
      | cons K r ih =>
        intro i nuX X z G hi hOrξ hRXξ h57ξ h58ξ hfrξ hMVξ hfinξ
        have hlenξ : (K :: r).length = r.length + 1 := rfl
        have hcsξ : zo_cs n1ξ npξ Lwξ (K :: r) i X = if (zo_tm n1ξ npξ Lwξ K K.2.2.2.1.toNat X).1 = true then zo_cs n1ξ npξ Lwξ r (i + 1) (zo_tm n1ξ npξ Lwξ K K.2.2.2.1.toNat X).2 else ((i : Int), (zo_tm n1ξ npξ Lwξ K K.2.2.2.1.toNat X).2) := rfl
        rw [hcsξ] at hfinξ
        obtain ⟨hK0ξ, hK7ξ, hK1ξ, hK20ξ⟩ := zOc_K hNξ hOrξ.1
        have inner : ∀ (t kk nuX : Nat) (X : Nat → Nat → Int) (z : Int) (G : Nat → Nat → Int), (kk : Int) + (t : Int) = K.2.2.2.1 → zRI X nuX n1ξ npξ Lwξ → (0 ≤ X 0 57 ∧ X 0 57 ≤ 20 * (i : Int) + (kk : Int)) → (-2147483648 ≤ X 0 58 ∧ X 0 58 ≤ 2147483647) → (∀ o k, o = 56 ∨ o = 24 ∨ o = 25 ∨ (o = 0 ∧ k = 21) → X o k = V1 o k) → zMVq A (zp_set X 0 60 z) u.1 G → zo_cs n1ξ npξ Lwξ L 0 (zo_be V1) = (if (zo_tm n1ξ npξ Lwξ K t X).1 = true then zo_cs n1ξ npξ Lwξ r (i + 1) (zo_tm n1ξ npξ Lwξ K t X).2 else ((i : Int), (zo_tm n1ξ npξ Lwξ K t X).2)) → zp_J p l e R s m args below meth c Q w u [] 150 [(3, 0, (kk : Int)), (2, 0, (i : Int)), (1, 0, (nuξ : Int)), (0, 2, (A 0 : Int))] [] u.1 G := by
          intro t
          induction t with
          | zero =>
            intro kk nuX X z G hktξ hRXξ h57ξ h58ξ hfrξ hMVξ hfinξ
            obtain ⟨Mn, hMnξ, hVMnξ, hSMnξ⟩ := hMVξ
            have h7Xξ : (zp_set X 0 60 z) 56 (2000 + (8 * i + 7)) = K.2.2.2.1 := (zp_set_ne (Or.inl (by decide))).trans ((hfrξ 56 _ (Or.inl rfl)).trans hK7ξ)
            have hi11ξ : i ≤ 11 := by omega
            have hkKξ : (kk : Int) = K.2.2.2.1 := by omega
            refine zp_load (pc := 150) hx hb (zd_X12_orders (150, .iload_n 3, 1, 0, []) (List.mem_of_getElem? (i := 82) rfl)) rfl (j := 0) rfl ?_
            refine zp_load (pc := 151) hx hb (zd_X12_orders (151, .aload_n 0, 1, 0, []) (List.mem_of_getElem? (i := 83) rfl)) rfl (j := 3) rfl ?_
            refine zp_getf (n := (A 56 : Int)) (pc := 152) hx hb hEξ hwξ (zd_X12_orders (152, .getfield 149, 3, 0, []) (List.mem_of_getElem? (i := 84) rfl)) (j := 74) rfl rfl rfl (zM_P hMnξ (List.mem_of_getElem? (i := 0) rfl)) ((zM_G hMnξ (List.mem_of_getElem? (i := 0) rfl) 56).trans (zM_F hMnξ (List.mem_of_getElem? (i := 32) rfl))) ?_
            refine zp_const (pc := 155) hx hb (zd_X12_orders (155, .bipush 8, 2, 0, []) (List.mem_of_getElem? (i := 85) rfl)) rfl rfl ?_
            refine zp_load (pc := 157) hx hb (zd_X12_orders (157, .iload_n 2, 1, 0, []) (List.mem_of_getElem? (i := 86) rfl)) rfl (j := 1) rfl ?_
            refine zp_mul (n := (8 * (i : Int))) (pc := 158) hx hb (zd_X12_orders (158, .imul, 1, 0, []) (List.mem_of_getElem? (i := 87) rfl)) (by omega) (zp_r0 (by omega) (by omega)) ?_
            refine zp_const (pc := 159) hx hb (zd_X12_orders (159, .bipush 7, 2, 0, []) (List.mem_of_getElem? (i := 88) rfl)) rfl rfl ?_
            refine zp_add (n := (8 * (i : Int) + 7)) (pc := 161) hx hb (zd_X12_orders (161, .iadd, 1, 0, []) (List.mem_of_getElem? (i := 89) rfl)) (by omega) (zp_r0 (by omega) (by omega)) ?_
            refine zp_iald (j := (8 * i + 7)) (v := K.2.2.2.1) (pc := 162) hx hb hwξ (zd_X12_orders (162, .iaload, 1, 0, []) (List.mem_of_getElem? (i := 90) rfl)) (show zp_ia 1 90 = some (96, 0, 0, (-2147483648), 2147483647) from rfl) (zM_P hMnξ (List.mem_of_getElem? (i := 33) rfl)) (by omega) (by omega) (((zM_G hMnξ (List.mem_of_getElem? (i := 33) rfl) (2000 + (8 * i + 7))).trans (hVMnξ 56 (2000 + (8 * i + 7)) (Or.inl (by decide)))).trans h7Xξ) (fun hk375ξ => ?_)
            have hk375bξ := zp_int hk375ξ
            clear hk375ξ
            refine zp_icmp (pc := 163) (tgt := 200) hx hb (zd_X12_orders (163, .if_icmp .ge 37, 3, 0, []) (List.mem_of_getElem? (i := 91) rfl)) rfl (fun (hc376ξ : K.2.2.2.1 ≤ (kk : Int)) => ?_) (fun (hc376ξ : ¬ (K.2.2.2.1 ≤ (kk : Int))) => ?_)
            · refine zp_iinc (L' := [(2, 0, ((i : Int) + 1)), (3, 0, (kk : Int)), (1, 0, (nuξ : Int)), (0, 2, (A 0 : Int))]) (n := ((i : Int) + 1)) (pc := 200) hx hb hnLξ (zd_X12_orders (200, .iinc 2 1, 3, 0, []) (List.mem_of_getElem? (i := 110) rfl)) (j := 1) rfl (by omega) (zp_r0 (by omega) (by omega)) rfl rfl ?_
              refine zp_goto (tgt := 140) (pc := 203) hx hb (zd_X12_orders (203, .goto (-63), 3, 0, []) (List.mem_of_getElem? (i := 111) rfl)) rfl ?_
              refine zp_drop (L' := [(2, 0, ((i : Int) + 1)), (1, 0, (nuξ : Int)), (0, 2, (A 0 : Int))]) (by simp) ?_
              exact ih (i + 1) nuX X z _ (by omega) hOrξ.2 hRXξ (by omega) h58ξ hfrξ ⟨Mn, hMnξ, hVMnξ, hSMnξ⟩ hfinξ
            · exfalso
              omega
          | succ t iht =>
            intro kk nuX X z G hktξ hRXξ h57ξ h58ξ hfrξ hMVξ hfinξ
            obtain ⟨Mn, hMnξ, hVMnξ, hSMnξ⟩ := hMVξ
            have h7Xξ : (zp_set X 0 60 z) 56 (2000 + (8 * i + 7)) = K.2.2.2.1 := (zp_set_ne (Or.inl (by decide))).trans ((hfrξ 56 _ (Or.inl rfl)).trans hK7ξ)
            have hi11ξ : i ≤ 11 := by omega
            have hkKξ : (kk : Int) < K.2.2.2.1 := by omega
            have h8Xξ : (X 0 8).toNat = nuX := by
              rw [hRXξ.2.1.1]
              exact Int.toNat_natCast nuX
            have htmξ : zo_tm n1ξ npξ Lwξ K (t + 1) X = if (zo_run X nuX n1ξ npξ Lwξ K).1 < 0 then (false, (zo_run X nuX n1ξ npξ Lwξ K).2) else zo_tm n1ξ npξ Lwξ K t (zo_run X nuX n1ξ npξ Lwξ K).2 := by
              rw [zo_tm, h8Xξ]
            rw [htmξ] at hfinξ
            have h20Xξ : (zp_set X 0 60 z) 0 20 = 0 := (zp_set_ne (Or.inr (by decide))).trans hRXξ.1.2.2.2.2
            refine zp_load (pc := 150) hx hb (zd_X12_orders (150, .iload_n 3, 1, 0, []) (List.mem_of_getElem? (i := 82) rfl)) rfl (j := 0) rfl ?_
            refine zp_load (pc := 151) hx hb (zd_X12_orders (151, .aload_n 0, 1, 0, []) (List.mem_of_getElem? (i := 83) rfl)) rfl (j := 3) rfl ?_
            refine zp_getf (n := (A 56 : Int)) (pc := 152) hx hb hEξ hwξ (zd_X12_orders (152, .getfield 149, 3, 0, []) (List.mem_of_getElem? (i := 84) rfl)) (j := 74) rfl rfl rfl (zM_P hMnξ (List.mem_of_getElem? (i := 0) rfl)) ((zM_G hMnξ (List.mem_of_getElem? (i := 0) rfl) 56).trans (zM_F hMnξ (List.mem_of_getElem? (i := 32) rfl))) ?_
            refine zp_const (pc := 155) hx hb (zd_X12_orders (155, .bipush 8, 2, 0, []) (List.mem_of_getElem? (i := 85) rfl)) rfl rfl ?_
            refine zp_load (pc := 157) hx hb (zd_X12_orders (157, .iload_n 2, 1, 0, []) (List.mem_of_getElem? (i := 86) rfl)) rfl (j := 1) rfl ?_
            refine zp_mul (n := (8 * (i : Int))) (pc := 158) hx hb (zd_X12_orders (158, .imul, 1, 0, []) (List.mem_of_getElem? (i := 87) rfl)) (by omega) (zp_r0 (by omega) (by omega)) ?_
            refine zp_const (pc := 159) hx hb (zd_X12_orders (159, .bipush 7, 2, 0, []) (List.mem_of_getElem? (i := 88) rfl)) rfl rfl ?_
            refine zp_add (n := (8 * (i : Int) + 7)) (pc := 161) hx hb (zd_X12_orders (161, .iadd, 1, 0, []) (List.mem_of_getElem? (i := 89) rfl)) (by omega) (zp_r0 (by omega) (by omega)) ?_
            refine zp_iald (j := (8 * i + 7)) (v := K.2.2.2.1) (pc := 162) hx hb hwξ (zd_X12_orders (162, .iaload, 1, 0, []) (List.mem_of_getElem? (i := 90) rfl)) (show zp_ia 1 90 = some (96, 0, 0, (-2147483648), 2147483647) from rfl) (zM_P hMnξ (List.mem_of_getElem? (i := 33) rfl)) (by omega) (by omega) (((zM_G hMnξ (List.mem_of_getElem? (i := 33) rfl) (2000 + (8 * i + 7))).trans (hVMnξ 56 (2000 + (8 * i + 7)) (Or.inl (by decide)))).trans h7Xξ) (fun hk377ξ => ?_)
            have hk377bξ := zp_int hk377ξ
            clear hk377ξ
            refine zp_icmp (pc := 163) (tgt := 200) hx hb (zd_X12_orders (163, .if_icmp .ge 37, 3, 0, []) (List.mem_of_getElem? (i := 91) rfl)) rfl (fun (hc378ξ : K.2.2.2.1 ≤ (kk : Int)) => ?_) (fun (hc378ξ : ¬ (K.2.2.2.1 ≤ (kk : Int))) => ?_)
            · exfalso
              omega
            · refine zp_load (pc := 166) hx hb (zd_X12_orders (166, .aload_n 0, 1, 0, []) (List.mem_of_getElem? (i := 92) rfl)) rfl (j := 3) rfl ?_
              refine zp_const (pc := 167) hx hb (zd_X12_orders (167, .bipush 8, 2, 0, []) (List.mem_of_getElem? (i := 93) rfl)) rfl rfl ?_
              refine zp_load (pc := 169) hx hb (zd_X12_orders (169, .iload_n 2, 1, 0, []) (List.mem_of_getElem? (i := 94) rfl)) rfl (j := 1) rfl ?_
              refine zp_mul (n := (8 * (i : Int))) (pc := 170) hx hb (zd_X12_orders (170, .imul, 1, 0, []) (List.mem_of_getElem? (i := 95) rfl)) (by omega) (zp_r0 (by omega) (by omega)) ?_
              have hRzξ := zRI_o (k := 60) (v := z) (o := 0) (by decide) (Or.inr (by decide)) hRXξ
              have hKzξ : zo_K (zp_set X 0 60 z) (8 * i) K := zo_K_e (fun k => (zp_set_ne (Or.inl (by decide))).trans (hfrξ 56 k (Or.inl rfl))) (fun k => (zp_set_ne (Or.inl (by decide))).trans (hfrξ 24 k (Or.inr (Or.inl rfl)))) (fun k => (zp_set_ne (Or.inl (by decide))).trans (hfrξ 25 k (Or.inr (Or.inr (Or.inl rfl))))) hK0ξ
              have hAzξ : zo_rA (zp_set X 0 60 z) := ⟨fun j hjξ => by
                rw [show (zp_set X 0 60 z) 25 (2000 + j) = V1 25 (2000 + j) from (zp_set_ne (Or.inl (by decide))).trans (hfrξ 25 _ (Or.inr (Or.inr (Or.inl rfl))))]
                exact hA25ξ j hjξ, by
                rw [show (zp_set X 0 60 z) 0 57 = X 0 57 from zp_set_ne (Or.inr (by decide))]
                omega, by
                rw [show (zp_set X 0 60 z) 0 58 = X 0 58 from zp_set_ne (Or.inr (by decide))]
                exact h58ξ⟩
              refine zp_call (pc := 171) (how := 0) (idx := 552) (mi := 290) (S := []) hx hb hEξ hwξ heffξ hrmξ (zX_roq hWξ A (zp_set X 0 60 z) (8 * i) nuX n1ξ npξ K Lwξ) rfl (j := 71) rfl rfl (by decide +kernel) (zd_X12_orders (171, .invokevirtual 552, 3, 0, []) (List.mem_of_getElem? (i := 96) rfl)) [(A 0 : Int), (8 * (i : Int))] rfl ⟨zp_o2 (zM_P hMnξ (List.mem_of_getElem? (i := 0) rfl)), zp_o0 (by omega) (by omega) (by omega) (by omega), trivial⟩ (Nat.le_of_ble_eq_true rfl) ⟨⟨Mn, hMnξ, hVMnξ, hSMnξ⟩, rfl, (show (8 * (i : Int)) = ((8 * i : Nat) : Int) by omega), by omega, hRzξ, hKzξ, hAzξ⟩ (fun al halξ rnr Pr Gr hextrξ hfrrξ hokrξ hcsrξ hpsirξ => ?_)
              obtain rfl := List.mem_singleton.mp halξ
              have hrrξ := zp_int (hokrξ _ rfl).1
              obtain ⟨hPerξ, zr, hMVrξ, htrξ⟩ := hpsirξ
              subst hPerξ
              clear hextrξ hfrrξ hcsrξ
              rw [zo_run_60] at hMVrξ htrξ
              have hbr9ξ := zo_run_b (K := K) (nuξ := nuX) (n1ξ := n1ξ) (npξ := npξ) (Lwξ := Lwξ) h57ξ.1 (fun a b => zo_do_b hRXξ a b) h58ξ
              obtain ⟨nuY, hRYξ⟩ := zRI_run (K := K) hRXξ
              have hfYξ : (∀ o k, o = 56 ∨ o = 24 ∨ o = 25 ∨ (o = 0 ∧ k = 21) → (zo_run X nuX n1ξ npξ Lwξ K).2 o k = V1 o k) := fun o k h => (zo_run_k (by omega) (by omega) (by omega) (by omega) (by omega)).trans (hfrξ o k h)
              obtain ⟨Mr, hMrξ, hVMrξ, hSMrξ⟩ := hMVrξ
              refine zp_if (pc := 174) (tgt := 194) hx hb (zd_X12_orders (174, .ifCond .ge 20, 3, 0, []) (List.mem_of_getElem? (i := 97) rfl)) rfl (fun (hc379ξ : 0 ≤ rnr) => ?_) (fun (hc379ξ : ¬ (0 ≤ rnr)) => ?_)
              · refine zp_iinc (L' := [(3, 0, ((kk : Int) + 1)), (2, 0, (i : Int)), (1, 0, (nuξ : Int)), (0, 2, (A 0 : Int))]) (n := ((kk : Int) + 1)) (pc := 194) hx hb hnLξ (zd_X12_orders (194, .iinc 3 1, 3, 0, []) (List.mem_of_getElem? (i := 108) rfl)) (j := 0) rfl (by omega) (zp_r0 (by omega) (by omega)) rfl rfl ?_
                refine zp_goto (tgt := 150) (pc := 197) hx hb (zd_X12_orders (197, .goto (-47), 3, 0, []) (List.mem_of_getElem? (i := 109) rfl)) rfl ?_
                rw [if_neg (show ¬ (zo_run X nuX n1ξ npξ Lwξ K).1 < 0 by omega)] at hfinξ
                refine zp_drop (L' := [(3, 0, ((kk : Int) + 1)), (2, 0, (i : Int)), (1, 0, (nuξ : Int)), (0, 2, (A 0 : Int))]) (by simp) ?_
                exact iht (kk + 1) nuY (zo_run X nuX n1ξ npξ Lwξ K).2 zr _ (by omega) hRYξ (by omega) hbr9ξ.2 hfYξ ⟨Mr, hMrξ, hVMrξ, hSMrξ⟩ hfinξ
              · refine zp_load (pc := 177) hx hb (zd_X12_orders (177, .aload_n 0, 1, 0, []) (List.mem_of_getElem? (i := 98) rfl)) rfl (j := 3) rfl ?_
                refine zp_load (pc := 178) hx hb (zd_X12_orders (178, .iload_n 1, 1, 0, []) (List.mem_of_getElem? (i := 99) rfl)) rfl (j := 2) rfl ?_
                rw [if_pos (show (zo_run X nuX n1ξ npξ Lwξ K).1 < 0 by omega)] at hfinξ
                rw [if_neg (show ¬ ((false, (zo_run X nuX n1ξ npξ Lwξ K).2).1 = true) from Bool.false_ne_true)] at hfinξ
                have h20Yξ : (zp_set (zo_run X nuX n1ξ npξ Lwξ K).2 0 60 zr) 0 20 = 0 := (zp_set_ne (Or.inr (by decide))).trans hRYξ.1.2.2.2.2
                refine zp_call (pc := 179) (how := 0) (idx := 555) (mi := 292) (S := []) hx hb hEξ hwξ heffξ hrmξ (zX_gbq hWξ A (zp_set (zo_run X nuX n1ξ npξ Lwξ K).2 0 60 zr)) rfl (j := 73) rfl rfl (by decide +kernel) (zd_X12_orders (179, .invokevirtual 555, 3, 0, []) (List.mem_of_getElem? (i := 100) rfl)) [(A 0 : Int), (nuξ : Int)] rfl ⟨zp_o2 (zM_P hMrξ (List.mem_of_getElem? (i := 0) rfl)), zp_o0 (by omega) (by omega) (by omega) (by omega), trivial⟩ (Nat.le_of_ble_eq_true rfl) ⟨⟨Mr, hMrξ, hVMrξ, hSMrξ⟩, rfl, h20Yξ⟩ (fun al halξ rng Pg Gg hextgξ hfrgξ hokgξ hcsgξ hpsigξ => ?_)
                obtain rfl := List.mem_singleton.mp halξ
                obtain ⟨hPegξ, Mg, hMgξ, hVgξ, hSbgξ⟩ := hpsigξ
                subst hPegξ
                clear hextgξ hfrgξ hcsgξ hokgξ
                have hVgξ : ∀ o k, zNs o k → Mg o k = (zo_gb (zp_set (zo_run X nuX n1ξ npξ Lwξ K).2 0 60 zr) (nuξ : Int)) o k := hVgξ
                have h20gξ : (zp_set (zo_gb (zp_set (zo_run X nuX n1ξ npξ Lwξ K).2 0 60 zr) (nuξ : Int)) 0 59 (i : Int)) 0 20 = 0 := by
                  rw [zp_set_ne (Or.inr (by decide)), zo_gb_0 (by decide)]
                  exact h20Yξ
                refine zp_load (pc := 182) hx hb (zd_X12_orders (182, .aload_n 0, 1, 0, []) (List.mem_of_getElem? (i := 101) rfl)) rfl (j := 3) rfl ?_
                refine zp_load (pc := 183) hx hb (zd_X12_orders (183, .iload_n 2, 1, 0, []) (List.mem_of_getElem? (i := 102) rfl)) rfl (j := 1) rfl ?_
                refine zp_putf (pc := 184) hx hb hEξ hwξ heffξ (zd_X12_orders (184, .putfield 152, 3, 0, []) (List.mem_of_getElem? (i := 103) rfl)) (j := 77) rfl rfl rfl (zM_P hMgξ (List.mem_of_getElem? (i := 0) rfl)) (zp_o0 (by omega) (by omega) (by omega) (by omega)) ?_
                refine zp_load (pc := 187) hx hb (zd_X12_orders (187, .aload_n 0, 1, 0, []) (List.mem_of_getElem? (i := 104) rfl)) rfl (j := 3) rfl ?_
                refine zp_const (pc := 188) hx hb (zd_X12_orders (188, .bipush (-3), 2, 0, []) (List.mem_of_getElem? (i := 105) rfl)) rfl rfl ?_
                refine zp_call (pc := 190) (how := 0) (idx := 170) (mi := 183) (S := []) hx hb hEξ hwξ heffξ hrmξ (zX_tllq hWξ A (zp_set (zo_gb (zp_set (zo_run X nuX n1ξ npξ Lwξ K).2 0 60 zr) (nuξ : Int)) 0 59 (i : Int)) h20gξ) rfl (j := 0) rfl rfl (by decide +kernel) (zd_X12_orders (190, .invokevirtual 170, 3, 0, []) (List.mem_of_getElem? (i := 106) rfl)) [(A 0 : Int), (-3)] rfl ⟨zp_o2 (zM_P hMgξ (List.mem_of_getElem? (i := 0) rfl)), zp_o0 (by omega) (by omega) (by omega) (by omega), trivial⟩ (Nat.le_of_ble_eq_true rfl) ⟨⟨(zp_set Mg 0 59 (i : Int)), (zM_set hMgξ (List.mem_of_getElem? (i := 0) rfl) (by decide)), (zV_set hVgξ), (zSb_set (by decide) hSbgξ)⟩, rfl, (show -6 ≤ (-3) by omega)⟩ (fun al halξ rnt Pt Gt hexttξ hfrtξ hoktξ hcstξ hpsitξ => ?_)
                obtain rfl := List.mem_singleton.mp halξ
                have hrtξ := zp_int (hoktξ _ rfl).1
                obtain ⟨hPetξ, ⟨Mt, hMtξ, hVtξ, hSbtξ⟩, httξ⟩ := hpsitξ
                subst hPetξ
                clear hexttξ hfrtξ hcstξ hoktξ
                have hVtξ : ∀ o k, zNs o k → Mt o k = (zT_tell (zp_set (zo_gb (zp_set (zo_run X nuX n1ξ npξ Lwξ K).2 0 60 zr) (nuξ : Int)) 0 59 (i : Int)) (-3)) o k := hVtξ
                have httξ : rnt = (-3) := httξ
                have httξ := (Eq.symm httξ)
                subst httξ
                refine zp_iret (pc := 193) (n := (-3)) hx hb hEξ hQξ hU5ξ rfl (by decide) (zd_X12_orders (193, .ireturn, 1, 0, []) (List.mem_of_getElem? (i := 107) rfl)) (j := 0) rfl (zp_o0 (by omega) (by omega) (by omega) (by omega)) ?_
                rw [hpsξ]
                refine ⟨rfl, ?_⟩
                have hallξ : zo_all V1 nuξ n1ξ npξ Lwξ L = (-3, zT_tell (zp_set (zo_gb (zo_run X nuX n1ξ npξ Lwξ K).2 (nuξ : Int)) 0 59 (i : Int)) (-3)) := by
                  unfold zo_all
                  rw [hfinξ]
                  rw [if_neg (show ¬ ((i : Int) < 0) by omega)]
                refine ⟨_, V1, hyTξ, hrdξ, Or.inr ⟨L, zr, rfl, h18ξ, ?_, ?_⟩⟩
                · rw [hallξ]
                  show zMVq A (zp_set (zT_tell (zp_set (zo_gb (zo_run X nuX n1ξ npξ Lwξ K).2 (nuξ : Int)) 0 59 (i : Int)) (-3)) 0 60 zr) u.1 _
                  rw [← zT_tell_60, zp_set_60c (show (59 : Nat) ≠ 60 by decide), ← zo_gb_60]
                  exact ⟨Mt, hMtξ, hVtξ, hSbtξ⟩
                · rw [hallξ]
        obtain ⟨Mo, hMoξ, hVMoξ, hSMoξ⟩ := hMVξ
        have h21Xξ : (zp_set X 0 60 z) 0 21 = (L.length : Int) := (zp_set_ne (Or.inr (by decide))).trans ((hfrξ 0 21 (Or.inr (Or.inr (Or.inr ⟨rfl, rfl⟩)))).trans h21ξ)
        have hiLξ : (i : Int) < (L.length : Int) := by omega
        refine zp_load (pc := 140) hx hb (zd_X12_orders (140, .iload_n 2, 1, 0, []) (List.mem_of_getElem? (i := 76) rfl)) rfl (j := 0) rfl ?_
        refine zp_load (pc := 141) hx hb (zd_X12_orders (141, .aload_n 0, 1, 0, []) (List.mem_of_getElem? (i := 77) rfl)) rfl (j := 2) rfl ?_
        refine zp_getf (n := (L.length : Int)) (pc := 142) hx hb hEξ hwξ (zd_X12_orders (142, .getfield 371, 3, 0, []) (List.mem_of_getElem? (i := 78) rfl)) (j := 39) rfl rfl rfl (zM_P hMoξ (List.mem_of_getElem? (i := 0) rfl)) (((zM_G hMoξ (List.mem_of_getElem? (i := 0) rfl) 21).trans (hVMoξ 0 21 (Or.inr (by decide)))).trans h21Xξ) ?_
        refine zp_icmp (pc := 145) (tgt := 206) hx hb (zd_X12_orders (145, .if_icmp .ge 61, 3, 0, []) (List.mem_of_getElem? (i := 79) rfl)) rfl (fun (hc380ξ : (L.length : Int) ≤ (i : Int)) => ?_) (fun (hc380ξ : ¬ ((L.length : Int) ≤ (i : Int))) => ?_)
        · exfalso
          omega
        · refine zp_const (pc := 148) hx hb (zd_X12_orders (148, .iconst 0, 1, 0, []) (List.mem_of_getElem? (i := 80) rfl)) rfl rfl ?_
          refine zp_store (L' := [(3, 0, 0), (2, 0, (i : Int)), (1, 0, (nuξ : Int)), (0, 2, (A 0 : Int))]) (pc := 149) hx hb hnLξ (zd_X12_orders (149, .istore_n 3, 1, 0, []) (List.mem_of_getElem? (i := 81) rfl)) rfl rfl rfl ?_
          refine zp_drop (L' := [(3, 0, 0), (2, 0, (i : Int)), (1, 0, (nuξ : Int)), (0, 2, (A 0 : Int))]) (by simp) ?_
          exact inner K.2.2.2.1.toNat 0 nuX X z _ (by omega) hRXξ (by omega) h58ξ hfrξ ⟨Mo, hMoξ, hVMoξ, hSMoξ⟩ hfinξ
    obtain ⟨Mk, hMkξ, hVMkξ, hSMkξ⟩ := hMV0ξ
    have loopb : ∀ (r9ξ i9ξ : Nat) (G : Nat → Nat → Int), r9ξ + i9ξ = 16 → zMVq A (zc_cp (zc_cp (zc_cp V1 3 5 6 (34 * 17) 34) 6 0 9 0 544) 7 0 10 0 i9ξ) u.1 G → zp_J p l e R s m args below meth c Q w u [] 104 [(2, 0, (i9ξ : Int)), (1, 0, (nuξ : Int)), (0, 2, (A 0 : Int))] [] u.1 G := by
      intro r9ξ
      induction r9ξ with
      | zero =>
        intro i9ξ G hrξ hMV9ξ
        obtain rfl : i9ξ = 16 := by omega
        obtain ⟨M9ξ, hM9ξ, hV9ξ, hSb9ξ⟩ := hMV9ξ
        show zp_J p l e R s m args below meth c Q w u [] 104 [(2, 0, 16), (1, 0, (nuξ : Int)), (0, 2, (A 0 : Int))] [] u.1 G
        refine zp_load (pc := 104) hx hb (zd_X12_orders (104, .iload_n 2, 1, 0, []) (List.mem_of_getElem? (i := 55) rfl)) rfl (j := 0) rfl ?_
        refine zp_const (pc := 105) hx hb (zd_X12_orders (105, .bipush 16, 2, 0, []) (List.mem_of_getElem? (i := 56) rfl)) rfl rfl ?_
        refine zp_icmp (pc := 107) (tgt := 128) hx hb (zd_X12_orders (107, .if_icmp .ge 21, 3, 0, []) (List.mem_of_getElem? (i := 57) rfl)) rfl (fun (hc381ξ : 16 ≤ (16 : Int)) => ?_) (fun (hc381ξ : ¬ (16 ≤ (16 : Int))) => ?_)
        · refine zp_load (pc := 128) hx hb (zd_X12_orders (128, .aload_n 0, 1, 0, []) (List.mem_of_getElem? (i := 68) rfl)) rfl (j := 2) rfl ?_
          refine zp_const (pc := 129) hx hb (zd_X12_orders (129, .iconst 0, 1, 0, []) (List.mem_of_getElem? (i := 69) rfl)) rfl rfl ?_
          refine zp_putf (pc := 130) hx hb hEξ hwξ heffξ (zd_X12_orders (130, .putfield 540, 3, 0, []) (List.mem_of_getElem? (i := 70) rfl)) (j := 75) rfl rfl rfl (zM_P hM9ξ (List.mem_of_getElem? (i := 0) rfl)) (zp_o0 (by decide) (by decide) (by decide) (by decide)) ?_
          refine zp_load (pc := 133) hx hb (zd_X12_orders (133, .aload_n 0, 1, 0, []) (List.mem_of_getElem? (i := 71) rfl)) rfl (j := 2) rfl ?_
          refine zp_const (pc := 134) hx hb (zd_X12_orders (134, .iconst (-1), 1, 0, []) (List.mem_of_getElem? (i := 72) rfl)) rfl rfl ?_
          refine zp_putf (pc := 135) hx hb hEξ hwξ heffξ (zd_X12_orders (135, .putfield 543, 3, 0, []) (List.mem_of_getElem? (i := 73) rfl)) (j := 76) rfl rfl rfl (zM_P hM9ξ (List.mem_of_getElem? (i := 0) rfl)) (zp_o0 (by decide) (by decide) (by decide) (by decide)) ?_
          refine zp_const (pc := 138) hx hb (zd_X12_orders (138, .iconst 0, 1, 0, []) (List.mem_of_getElem? (i := 74) rfl)) rfl rfl ?_
          refine zp_store (L' := [(2, 0, 0), (1, 0, (nuξ : Int)), (0, 2, (A 0 : Int))]) (pc := 139) hx hb hnLξ (zd_X12_orders (139, .istore_n 2, 1, 0, []) (List.mem_of_getElem? (i := 75) rfl)) rfl rfl rfl ?_
          obtain ⟨Mw, hMwξ, hVwξ, hSwξ⟩ : zMVq A (zo_be V1) u.1 (zp_set (zp_set G (A 0) 57 0) (A 0) 58 (-1)) := ⟨(zp_set (zp_set M9ξ 0 57 0) 0 58 (-1)), (zM_set (zM_set hM9ξ (List.mem_of_getElem? (i := 0) rfl) (by decide)) (List.mem_of_getElem? (i := 0) rfl) (by decide)), (zV_set (zV_set hV9ξ)), (zSb_set (by decide) (zSb_set (by decide) hSb9ξ))⟩
          obtain ⟨z9ξ, hz9ξ⟩ := zMVq_u (o := 0) (k := 60) (show zMVq A (zo_be V1) u.1 _ from ⟨Mw, hMwξ, hVwξ, hSwξ⟩)
          refine zp_drop (L' := [(2, 0, 0), (1, 0, (nuξ : Int)), (0, 2, (A 0 : Int))]) (by simp) ?_
          exact h140ξ L 0 nuξ (zo_be V1) z9ξ _ (Nat.zero_add _) hOsξ hRIbξ (by rw [show zo_be V1 0 57 = 0 from rfl]; decide) (by rw [show zo_be V1 0 58 = -1 from rfl]; decide) (fun o k h => zo_be_o (by omega) (by omega) (by omega) (by omega)) hz9ξ rfl
        · exfalso
          omega
      | succ r9ξ ih =>
        intro i9ξ G hrξ hMV9ξ
        obtain ⟨M9ξ, hM9ξ, hV9ξ, hSb9ξ⟩ := hMV9ξ
        refine zp_load (pc := 104) hx hb (zd_X12_orders (104, .iload_n 2, 1, 0, []) (List.mem_of_getElem? (i := 55) rfl)) rfl (j := 0) rfl ?_
        refine zp_const (pc := 105) hx hb (zd_X12_orders (105, .bipush 16, 2, 0, []) (List.mem_of_getElem? (i := 56) rfl)) rfl rfl ?_
        refine zp_icmp (pc := 107) (tgt := 128) hx hb (zd_X12_orders (107, .if_icmp .ge 21, 3, 0, []) (List.mem_of_getElem? (i := 57) rfl)) rfl (fun (hc382ξ : 16 ≤ (i9ξ : Int)) => ?_) (fun (hc382ξ : ¬ (16 ≤ (i9ξ : Int))) => ?_)
        · exfalso
          omega
        · refine zp_load (pc := 110) hx hb (zd_X12_orders (110, .aload_n 0, 1, 0, []) (List.mem_of_getElem? (i := 58) rfl)) rfl (j := 2) rfl ?_
          refine zp_getf (n := (A 10 : Int)) (pc := 111) hx hb hEξ hwξ (zd_X12_orders (111, .getfield 32, 3, 0, []) (List.mem_of_getElem? (i := 59) rfl)) (j := 28) rfl rfl rfl (zM_P hM9ξ (List.mem_of_getElem? (i := 0) rfl)) ((zM_G hM9ξ (List.mem_of_getElem? (i := 0) rfl) 10).trans (zM_F hM9ξ (List.mem_of_getElem? (i := 7) rfl))) ?_
          refine zp_load (pc := 114) hx hb (zd_X12_orders (114, .iload_n 2, 1, 0, []) (List.mem_of_getElem? (i := 60) rfl)) rfl (j := 0) rfl ?_
          refine zp_load (pc := 115) hx hb (zd_X12_orders (115, .aload_n 0, 1, 0, []) (List.mem_of_getElem? (i := 61) rfl)) rfl (j := 2) rfl ?_
          refine zp_getf (n := (A 7 : Int)) (pc := 116) hx hb hEξ hwξ (zd_X12_orders (116, .getfield 26, 3, 0, []) (List.mem_of_getElem? (i := 62) rfl)) (j := 25) rfl rfl rfl (zM_P hM9ξ (List.mem_of_getElem? (i := 0) rfl)) ((zM_G hM9ξ (List.mem_of_getElem? (i := 0) rfl) 7).trans (zM_F hM9ξ (List.mem_of_getElem? (i := 5) rfl))) ?_
          refine zp_load (pc := 119) hx hb (zd_X12_orders (119, .iload_n 2, 1, 0, []) (List.mem_of_getElem? (i := 63) rfl)) rfl (j := 0) rfl ?_
          refine zp_iald (j := i9ξ) (v := ((zc_cp (zc_cp V1 3 5 6 (34 * 17) 34) 6 0 9 0 544) 7 (2000 + i9ξ))) (pc := 120) hx hb hwξ (zd_X12_orders (120, .iaload, 1, 0, []) (List.mem_of_getElem? (i := 64) rfl)) (show zp_ia 1 63 = some (16, 0, 0, 0, 3) from rfl) (zM_P hM9ξ (List.mem_of_getElem? (i := 6) rfl)) (by omega) (by omega) (((zM_G hM9ξ (List.mem_of_getElem? (i := 6) rfl) (2000 + i9ξ)).trans (hV9ξ 7 (2000 + i9ξ) (Or.inl (by decide)))).trans (zc_cp_o (by decide))) (fun hk383ξ => ?_)
          have hk383bξ := zp_int hk383ξ
          clear hk383ξ
          refine zp_iast (j := i9ξ) (pc := 121) hx hb hwξ heffξ (zd_X12_orders (121, .iastore, 1, 0, []) (List.mem_of_getElem? (i := 65) rfl)) (show zp_ia 1 65 = some (16, 0, 0, 0, 3) from rfl) (zM_P hM9ξ (List.mem_of_getElem? (i := 8) rfl)) (by omega) (by omega) (zp_o0 (by omega) (by omega) (by omega) (by omega)) rfl ?_
          refine zp_iinc (L' := [(2, 0, ((i9ξ : Int) + 1)), (1, 0, (nuξ : Int)), (0, 2, (A 0 : Int))]) (n := ((i9ξ : Int) + 1)) (pc := 122) hx hb hnLξ (zd_X12_orders (122, .iinc 2 1, 3, 0, []) (List.mem_of_getElem? (i := 66) rfl)) (j := 0) rfl (by omega) (zp_r0 (by omega) (by omega)) rfl rfl ?_
          refine zp_goto (tgt := 104) (pc := 125) hx hb (zd_X12_orders (125, .goto (-21), 3, 0, []) (List.mem_of_getElem? (i := 67) rfl)) rfl ?_
          refine zp_drop (L' := [(2, 0, ((i9ξ : Int) + 1)), (1, 0, (nuξ : Int)), (0, 2, (A 0 : Int))]) (by simp) ?_
          refine ih (i9ξ + 1) _ (by omega) (zMVq_cg ⟨(zp_set M9ξ 10 (2000 + i9ξ) ((zc_cp (zc_cp V1 3 5 6 (34 * 17) 34) 6 0 9 0 544) 7 (2000 + i9ξ))), (zM_setE hM9ξ (List.mem_of_getElem? (i := 8) rfl)), (zV_set hV9ξ), (zSb_set (by decide) hSb9ξ)⟩ ?_)
          rw [show (2000 + i9ξ : Nat) = 2000 + (0 + i9ξ) by omega]
          try rw [show ((zc_cp (zc_cp V1 3 5 6 (34 * 17) 34) 6 0 9 0 544) 7 (2000 + i9ξ)) = (zc_cp (zc_cp V1 3 5 6 (34 * 17) 34) 6 0 9 0 544) 7 (2000 + (0 + i9ξ)) from congrArg (fun z => (zc_cp (zc_cp V1 3 5 6 (34 * 17) 34) 6 0 9 0 544) 7 (2000 + z)) (by omega)]
          exact zc_cp_s
    have loopa : ∀ (r9ξ i9ξ : Nat) (G : Nat → Nat → Int), r9ξ + i9ξ = 544 → zMVq A (zc_cp (zc_cp V1 3 5 6 (34 * 17) 34) 6 0 9 0 i9ξ) u.1 G → zp_J p l e R s m args below meth c Q w u [] 77 [(2, 0, (i9ξ : Int)), (1, 0, (nuξ : Int)), (0, 2, (A 0 : Int))] [] u.1 G := by
      clear h140ξ
      intro r9ξ
      induction r9ξ with
      | zero =>
        intro i9ξ G hrξ hMV9ξ
        obtain rfl : i9ξ = 544 := by omega
        obtain ⟨M9ξ, hM9ξ, hV9ξ, hSb9ξ⟩ := hMV9ξ
        show zp_J p l e R s m args below meth c Q w u [] 77 [(2, 0, 544), (1, 0, (nuξ : Int)), (0, 2, (A 0 : Int))] [] u.1 G
        refine zp_load (pc := 77) hx hb (zd_X12_orders (77, .iload_n 2, 1, 0, []) (List.mem_of_getElem? (i := 40) rfl)) rfl (j := 0) rfl ?_
        refine zp_const (pc := 78) hx hb (zd_X12_orders (78, .sipush 544, 3, 0, []) (List.mem_of_getElem? (i := 41) rfl)) rfl rfl ?_
        refine zp_icmp (pc := 81) (tgt := 102) hx hb (zd_X12_orders (81, .if_icmp .ge 21, 3, 0, []) (List.mem_of_getElem? (i := 42) rfl)) rfl (fun (hc384ξ : 544 ≤ (544 : Int)) => ?_) (fun (hc384ξ : ¬ (544 ≤ (544 : Int))) => ?_)
        · refine zp_const (pc := 102) hx hb (zd_X12_orders (102, .iconst 0, 1, 0, []) (List.mem_of_getElem? (i := 53) rfl)) rfl rfl ?_
          refine zp_store (L' := [(2, 0, 0), (1, 0, (nuξ : Int)), (0, 2, (A 0 : Int))]) (pc := 103) hx hb hnLξ (zd_X12_orders (103, .istore_n 2, 1, 0, []) (List.mem_of_getElem? (i := 54) rfl)) rfl rfl rfl ?_
          exact loopb 16 0 G (by omega) (zMVq_cg ⟨M9ξ, hM9ξ, hV9ξ, hSb9ξ⟩ zc_cp_0.symm)
        · exfalso
          omega
      | succ r9ξ ih =>
        intro i9ξ G hrξ hMV9ξ
        obtain ⟨M9ξ, hM9ξ, hV9ξ, hSb9ξ⟩ := hMV9ξ
        refine zp_load (pc := 77) hx hb (zd_X12_orders (77, .iload_n 2, 1, 0, []) (List.mem_of_getElem? (i := 40) rfl)) rfl (j := 0) rfl ?_
        refine zp_const (pc := 78) hx hb (zd_X12_orders (78, .sipush 544, 3, 0, []) (List.mem_of_getElem? (i := 41) rfl)) rfl rfl ?_
        refine zp_icmp (pc := 81) (tgt := 102) hx hb (zd_X12_orders (81, .if_icmp .ge 21, 3, 0, []) (List.mem_of_getElem? (i := 42) rfl)) rfl (fun (hc385ξ : 544 ≤ (i9ξ : Int)) => ?_) (fun (hc385ξ : ¬ (544 ≤ (i9ξ : Int))) => ?_)
        · exfalso
          omega
        · refine zp_load (pc := 84) hx hb (zd_X12_orders (84, .aload_n 0, 1, 0, []) (List.mem_of_getElem? (i := 43) rfl)) rfl (j := 2) rfl ?_
          refine zp_getf (n := (A 9 : Int)) (pc := 85) hx hb hEξ hwξ (zd_X12_orders (85, .getfield 29, 3, 0, []) (List.mem_of_getElem? (i := 44) rfl)) (j := 27) rfl rfl rfl (zM_P hM9ξ (List.mem_of_getElem? (i := 0) rfl)) ((zM_G hM9ξ (List.mem_of_getElem? (i := 0) rfl) 9).trans (zM_F hM9ξ (List.mem_of_getElem? (i := 6) rfl))) ?_
          refine zp_load (pc := 88) hx hb (zd_X12_orders (88, .iload_n 2, 1, 0, []) (List.mem_of_getElem? (i := 45) rfl)) rfl (j := 0) rfl ?_
          refine zp_load (pc := 89) hx hb (zd_X12_orders (89, .aload_n 0, 1, 0, []) (List.mem_of_getElem? (i := 46) rfl)) rfl (j := 2) rfl ?_
          refine zp_getf (n := (A 6 : Int)) (pc := 90) hx hb hEξ hwξ (zd_X12_orders (90, .getfield 23, 3, 0, []) (List.mem_of_getElem? (i := 47) rfl)) (j := 24) rfl rfl rfl (zM_P hM9ξ (List.mem_of_getElem? (i := 0) rfl)) ((zM_G hM9ξ (List.mem_of_getElem? (i := 0) rfl) 6).trans (zM_F hM9ξ (List.mem_of_getElem? (i := 4) rfl))) ?_
          refine zp_load (pc := 93) hx hb (zd_X12_orders (93, .iload_n 2, 1, 0, []) (List.mem_of_getElem? (i := 48) rfl)) rfl (j := 0) rfl ?_
          refine zp_ialdT (j := i9ξ) (v := ((zc_cp V1 3 5 6 (34 * 17) 34) 6 (2000 + i9ξ))) (T := zt_types.getD 62 (0, 0, 0, [])) (pc := 94) hx hb hwξ (zd_X12_orders (94, .iaload, 1, 0, []) (List.mem_of_getElem? (i := 49) rfl)) rfl rfl (zl_k0_62 i9ξ) (zM_P hM9ξ (List.mem_of_getElem? (i := 5) rfl)) (by omega) (show i9ξ < 612 by omega) (((zM_G hM9ξ (List.mem_of_getElem? (i := 5) rfl) (2000 + i9ξ)).trans (hV9ξ 6 (2000 + i9ξ) (Or.inl (by decide)))).trans (zc_cp_o (by decide))) (fun hk386ξ => ?_)
          refine zp_iastT (j := i9ξ) (T := zt_types.getD 64 (0, 0, 0, [])) (pc := 95) hx hb hwξ heffξ (zd_X12_orders (95, .iastore, 1, 0, []) (List.mem_of_getElem? (i := 50) rfl)) rfl rfl (zl_k0_64 i9ξ) (zM_P hM9ξ (List.mem_of_getElem? (i := 7) rfl)) (by omega) (show i9ξ < 544 by omega) (by omega) (zl_cpo (zl_k0_62 _) (zl_k0_64 _) (zl_62_64 (by omega)).symm hk386ξ) (Or.inr ⟨by decide, by decide⟩) rfl ?_
          refine zp_iinc (L' := [(2, 0, ((i9ξ : Int) + 1)), (1, 0, (nuξ : Int)), (0, 2, (A 0 : Int))]) (n := ((i9ξ : Int) + 1)) (pc := 96) hx hb hnLξ (zd_X12_orders (96, .iinc 2 1, 3, 0, []) (List.mem_of_getElem? (i := 51) rfl)) (j := 0) rfl (by omega) (zp_r0 (by omega) (by omega)) rfl rfl ?_
          refine zp_goto (tgt := 77) (pc := 99) hx hb (zd_X12_orders (99, .goto (-22), 3, 0, []) (List.mem_of_getElem? (i := 52) rfl)) rfl ?_
          refine zp_drop (L' := [(2, 0, ((i9ξ : Int) + 1)), (1, 0, (nuξ : Int)), (0, 2, (A 0 : Int))]) (by simp) ?_
          refine ih (i9ξ + 1) _ (by omega) (zMVq_cg ⟨(zp_set M9ξ 9 (2000 + i9ξ) ((zc_cp V1 3 5 6 (34 * 17) 34) 6 (2000 + i9ξ))), (zM_setE hM9ξ (List.mem_of_getElem? (i := 7) rfl)), (zV_set hV9ξ), (zSb_set (by decide) hSb9ξ)⟩ ?_)
          rw [show (2000 + i9ξ : Nat) = 2000 + (0 + i9ξ) by omega]
          try rw [show ((zc_cp V1 3 5 6 (34 * 17) 34) 6 (2000 + i9ξ)) = (zc_cp V1 3 5 6 (34 * 17) 34) 6 (2000 + (0 + i9ξ)) from congrArg (fun z => (zc_cp V1 3 5 6 (34 * 17) 34) 6 (2000 + z)) (by omega)]
          exact zc_cp_s
    refine zp_load (pc := 64) hx hb (zd_X12_orders (64, .aload_n 0, 1, 0, []) (List.mem_of_getElem? (i := 32) rfl)) rfl (j := 0) rfl ?_
    refine zp_const (pc := 65) hx hb (zd_X12_orders (65, .bipush 17, 2, 0, []) (List.mem_of_getElem? (i := 33) rfl)) rfl rfl ?_
    refine zp_call (pc := 67) (how := 0) (idx := 174) (mi := 264) (S := []) hx hb hEξ hwξ heffξ hrmξ (zX_kalq hWξ A V1 17 h201ξ) rfl (j := 57) rfl rfl (by decide +kernel) (zd_X12_orders (67, .invokevirtual 174, 3, 0, []) (List.mem_of_getElem? (i := 34) rfl)) [(A 0 : Int), 17] rfl ⟨zp_o2 (zM_P hMkξ (List.mem_of_getElem? (i := 0) rfl)), zp_o0 (by decide) (by decide) (by decide) (by decide), trivial⟩ (Nat.le_of_ble_eq_true rfl) ⟨⟨Mk, hMkξ, hVMkξ, hSMkξ⟩, rfl, rfl⟩ (fun al halξ rnk Pk Gk hextkξ hfrkξ hokkξ hcskξ hpsikξ => ?_)
    obtain rfl := List.mem_singleton.mp halξ
    obtain ⟨hPekξ, Mk, hMkξ, hVkξ, hSbkξ⟩ := hpsikξ
    subst hPekξ
    clear hextkξ hfrkξ hcskξ hokkξ
    have hVkξ : ∀ o k, zNs o k → Mk o k = (zc_cp V1 3 5 6 (34 * 17) 34) o k := hVkξ
    have h8kξ : (zc_cp V1 3 5 6 (34 * 17) 34) 0 8 = (nuξ : Int) := (zc_cp_o (by decide)).trans hnuξ.1
    refine zp_load (pc := 70) hx hb (zd_X12_orders (70, .aload_n 0, 1, 0, []) (List.mem_of_getElem? (i := 35) rfl)) rfl (j := 0) rfl ?_
    refine zp_getf (n := (nuξ : Int)) (pc := 71) hx hb hEξ hwξ (zd_X12_orders (71, .getfield 167, 3, 0, []) (List.mem_of_getElem? (i := 36) rfl)) (j := 26) rfl rfl rfl (zM_P hMkξ (List.mem_of_getElem? (i := 0) rfl)) (((zM_G hMkξ (List.mem_of_getElem? (i := 0) rfl) 8).trans (hVkξ 0 8 (Or.inr (by decide)))).trans h8kξ) ?_
    refine zp_store (L' := [(1, 0, (nuξ : Int)), (0, 2, (A 0 : Int))]) (pc := 74) hx hb hnLξ (zd_X12_orders (74, .istore_n 1, 1, 0, []) (List.mem_of_getElem? (i := 37) rfl)) rfl rfl rfl ?_
    refine zp_const (pc := 75) hx hb (zd_X12_orders (75, .iconst 0, 1, 0, []) (List.mem_of_getElem? (i := 38) rfl)) rfl rfl ?_
    refine zp_store (L' := [(2, 0, 0), (1, 0, (nuξ : Int)), (0, 2, (A 0 : Int))]) (pc := 76) hx hb hnLξ (zd_X12_orders (76, .istore_n 2, 1, 0, []) (List.mem_of_getElem? (i := 39) rfl)) rfl rfl rfl ?_
    refine zp_drop (L' := [(2, 0, 0), (1, 0, (nuξ : Int)), (0, 2, (A 0 : Int))]) (by simp) ?_
    exact loopa 544 0 _ (by omega) (zMVq_cg ⟨Mk, hMkξ, hVkξ, hSbkξ⟩ zc_cp_0.symm)
  obtain ⟨a, haξ⟩ : ∃ a : Nat, a = A 0 := ⟨_, rfl⟩
  have hpξ : u.1 a = some 92 := by
    rw [haξ]
    exact zM_P hMξ (List.mem_of_getElem? (i := 0) rfl)
  have hG0ξ : ∀ k, k < 64 → k ≠ 34 → k ≠ 38 → k ≠ 39 → k ≠ 40 → zp_n u.2.1 a k = V 0 k := fun k k1ξ k2 k3 k4 k5 => by
    rw [haξ, zM_G hMξ (List.mem_of_getElem? (i := 0) rfl) k]
    exact hVξ 0 k (Or.inr ⟨rfl, k1ξ, k2, k3, k4, k5⟩)
  have g12 : zp_n u.2.1 a 12 = (A 12 : Int) := by
    rw [haξ, zM_G hMξ (List.mem_of_getElem? (i := 0) rfl) 12]
    exact zM_F hMξ (List.mem_of_getElem? (i := 8) rfl)
  have g24 : zp_n u.2.1 a 24 = (A 24 : Int) := by
    rw [haξ, zM_G hMξ (List.mem_of_getElem? (i := 0) rfl) 24]
    exact zM_F hMξ (List.mem_of_getElem? (i := 10) rfl)
  have g25 : zp_n u.2.1 a 25 = (A 25 : Int) := by
    rw [haξ, zM_G hMξ (List.mem_of_getElem? (i := 0) rfl) 25]
    exact zM_F hMξ (List.mem_of_getElem? (i := 11) rfl)
  have g27 : zp_n u.2.1 a 27 = (A 27 : Int) := by
    rw [haξ, zM_G hMξ (List.mem_of_getElem? (i := 0) rfl) 27]
    exact zM_F hMξ (List.mem_of_getElem? (i := 12) rfl)
  have g28 : zp_n u.2.1 a 28 = (A 28 : Int) := by
    rw [haξ, zM_G hMξ (List.mem_of_getElem? (i := 0) rfl) 28]
    exact zM_F hMξ (List.mem_of_getElem? (i := 13) rfl)
  have g31 : zp_n u.2.1 a 31 = (A 31 : Int) := by
    rw [haξ, zM_G hMξ (List.mem_of_getElem? (i := 0) rfl) 31]
    exact zM_F hMξ (List.mem_of_getElem? (i := 14) rfl)
  have g32 : zp_n u.2.1 a 32 = (A 32 : Int) := by
    rw [haξ, zM_G hMξ (List.mem_of_getElem? (i := 0) rfl) 32]
    exact zM_F hMξ (List.mem_of_getElem? (i := 15) rfl)
  have g56 : zp_n u.2.1 a 56 = (A 56 : Int) := by
    rw [haξ, zM_G hMξ (List.mem_of_getElem? (i := 0) rfl) 56]
    exact zM_F hMξ (List.mem_of_getElem? (i := 32) rfl)
  have q12 : u.1 (A 12) = some 66 := zM_P hMξ (List.mem_of_getElem? (i := 9) rfl)
  have q24 : u.1 (A 24) = some 68 := zM_P hMξ (List.mem_of_getElem? (i := 11) rfl)
  have q25 : u.1 (A 25) = some 69 := zM_P hMξ (List.mem_of_getElem? (i := 12) rfl)
  have q27 : u.1 (A 27) = some 70 := zM_P hMξ (List.mem_of_getElem? (i := 13) rfl)
  have q28 : u.1 (A 28) = some 71 := zM_P hMξ (List.mem_of_getElem? (i := 14) rfl)
  have q31 : u.1 (A 31) = some 72 := zM_P hMξ (List.mem_of_getElem? (i := 15) rfl)
  have q32 : u.1 (A 32) = some 73 := zM_P hMξ (List.mem_of_getElem? (i := 16) rfl)
  have q56 : u.1 (A 56) = some 90 := zM_P hMξ (List.mem_of_getElem? (i := 33) rfl)
  have h13aξ : zp_n u.2.1 a 13 = (ln : Int) := (hG0ξ 13 (by decide) (by decide) (by decide) (by decide) (by decide)).trans h13ξ
  have h30aξ : 0 ≤ zp_n u.2.1 a 30 := by
    rw [hG0ξ 30 (by decide) (by decide) (by decide) (by decide) (by decide)]
    exact h30ξ
  have h20aξ : zp_n u.2.1 a 20 = 0 := (hG0ξ 20 (by decide) (by decide) (by decide) (by decide) (by decide)).trans h20ξ
  have h12aξ : ∀ j, zv (zp_n u.2.1) a 12 j = B j := fun j => (zv_eq g12 j).trans ((zM_G hMξ (List.mem_of_getElem? (i := 9) rfl) _).trans ((hVξ 12 _ (Or.inl (by decide))).trans (h12ξ j)))
  have hw0ξ : zDw u.1 false a (zp_n u.2.1) := ⟨h20aξ, A 31, A 32, ⟨g31, q31, fun k hkξ => (zM_G hMξ (List.mem_of_getElem? (i := 15) rfl) _).trans ((hVξ 31 _ (Or.inl (by decide))).trans (hwdξ.1 k hkξ))⟩, g32, q32, fun k hkξ => (zM_G hMξ (List.mem_of_getElem? (i := 16) rfl) _).trans ((hVξ 32 _ (Or.inl (by decide))).trans (hwdξ.2 k hkξ))⟩
  have hT0ξ : zDt u.1 a (zp_n u.2.1) := ⟨A 12, A 24, A 25, A 27, A 28, ⟨⟨g12, q12⟩, ⟨g24, q24⟩, ⟨g25, q25⟩⟩, ⟨g27, q27⟩, ⟨g28, q28⟩⟩
  have h64aξ : ∀ (L : List yK) (V1 : Nat → Nat → Int) (N : Nat) (G : Nat → Nat → Int), yT (zy_so B ln) (zy_wo B ln) (zy_to B ln) (yt_co (zy_so B ln) (zy_wo B ln) (zy_to B ln) (ylf true B ln)) 12 0 0 (Sum.inr L) → zo_rd V V1 → V1 0 18 = -1 → V1 0 21 = (L.length : Int) → L.length ≤ 12 → N ≤ 400 → zOs (fun j => V1 56 (2000 + j)) (fun j => V1 24 (2000 + j)) (fun j => V1 25 (2000 + j)) N 0 L → (∀ j, j < 400 → -2147483648 ≤ V1 25 (2000 + j) ∧ V1 25 (2000 + j) ≤ 2147483647) → zMVq A V1 u.1 G → zp_J p l e R s m args below meth c Q w u [] 64 [(0, 2, (a : Int))] [] u.1 G := by
    rw [haξ]
    exact h64ξ
  rw [← haξ]
  have hcellsξ : ∀ (G : Nat → Nat → Int), zo_rg a u.1 (zp_n u.2.1) G → G a 13 = 0 → G a 20 = 0 → 0 ≤ G a 30 → ∃ V1, zMVq A V1 u.1 G ∧ zo_rd V V1 ∧ (∀ k, zo_rkq k = true → V1 0 k = G a k) ∧ ∀ o k, o ∈ zo_rl → V1 o k = G (A o) k := fun G hgξ t13 t20 t30 => by
    have hg1ξ := hgξ.1
    rw [haξ] at hg1ξ
    obtain ⟨V1, w1ξ, w2, w3⟩ := zo_rdM hMξ hVξ hSbξ hg1ξ
    have w4 : ∀ k, zo_rkq k = true → V1 0 k = G a k := fun k hkξ => by
      rw [haξ]
      exact w3 0 k (Or.inl ⟨rfl, hkξ⟩)
    exact ⟨V1, w1ξ, ⟨w2, (w4 0 rfl).trans hgξ.2.1, (w4 13 rfl).trans t13, (w4 59 rfl).trans hgξ.2.2, (w4 20 rfl).trans t20, by rw [w4 30 rfl]; exact t30⟩, w4, fun o k hoξ => w3 o k (Or.inr hoξ)⟩
  have hrv9ξ : ∀ (L : List yK) (G : Nat → Nat → Int) (N : Nat), zo_rg a u.1 (zp_n u.2.1) G → G a 13 = 0 → G a 20 = 0 → 0 ≤ G a 30 → G a 18 = -1 → G a 21 = (L.length : Int) → L.length ≤ 12 → N ≤ 400 → zOs (zv G a 56) (zv G a 24) (zv G a 25) N 0 L → yT (zy_so B ln) (zy_wo B ln) (zy_to B ln) (yt_co (zy_so B ln) (zy_wo B ln) (zy_to B ln) (ylf true B ln)) 12 0 0 (Sum.inr L) → zp_J p l e R s m args below meth c Q w u [] 64 [(0, 2, (a : Int))] [] u.1 G := fun L G N hgξ t13 t20 t30 t18 t21 hL12ξ hNξ hOsξ hyTξ => by
    obtain ⟨V1, w1ξ, w2, w3, w4⟩ := hcellsξ G hgξ t13 t20 t30
    have e24 : G a 24 = (A 24 : Int) := (hgξ.1.1 24 (by decide) rfl).trans g24
    have e25 : G a 25 = (A 25 : Int) := (hgξ.1.1 25 (by decide) rfl).trans g25
    have e56 : G a 56 = (A 56 : Int) := (hgξ.1.1 56 (by decide) rfl).trans g56
    refine zp_knA (a := A 25) hwξ (show zp_ia 1 69 = some (400, 0, 0, (-2147483648), 2147483647) from rfl) q25 (fun hk25ξ => ?_)
    refine h64aξ L V1 N G hyTξ w2 ((w3 18 rfl).trans t18) ((w3 21 rfl).trans t21) hL12ξ hNξ ?_ (fun j hjξ => by rw [w4 25 _ (by decide)]; exact hk25ξ j hjξ) w1ξ
    have f24 : (fun j => V1 24 (2000 + j)) = zv G a 24 := funext fun j => (w4 24 _ (by decide)).trans (zv_eq e24 j).symm
    have f25 : (fun j => V1 25 (2000 + j)) = zv G a 25 := funext fun j => (w4 25 _ (by decide)).trans (zv_eq e25 j).symm
    have f56 : (fun j => V1 56 (2000 + j)) = zv G a 56 := funext fun j => (w4 56 _ (by decide)).trans (zv_eq e56 j).symm
    rw [f24, f25, f56]
    exact hOsξ
  have hbadξ : ∀ (q : Nat) (G : Nat → Nat → Int), zo_rg a u.1 (zp_n u.2.1) G → zBad a G B ln → G a 18 = (zy_fr B ln q : Int) → yT (zy_so B ln) (zy_wo B ln) (zy_to B ln) (yt_co (zy_so B ln) (zy_wo B ln) (zy_to B ln) (ylf true B ln)) 12 0 0 (Sum.inl q) → zp_J p l e R s m args below meth c Q w u [] 46 [(0, 2, (a : Int))] [] u.1 G := by
    clear h64ξ h64aξ
    intro q G hgRξ hbdξ h18ξ hyTξ
    obtain ⟨tk, n9ξ, od, pi, cd, hDξ⟩ := hbdξ
    have hD2ξ := hDξ
    obtain ⟨⟨d13, dl, dt, d12, dB⟩, ⟨d14, d15, d16, d17⟩, ⟨d19, d18⟩, ⟨d23, d24, d25⟩, d26, ⟨d29, dp⟩, d30⟩ := hD2ξ
    refine zp_load (pc := 46) hx hb (zd_X12_orders (46, .aload_n 0, 1, 0, []) (List.mem_of_getElem? (i := 23) rfl)) rfl (j := 0) rfl ?_
    refine zp_call (pc := 47) (how := 0) (idx := 385) (mi := 235) (S := []) hx hb hEξ hwξ heffξ hrmξ (zY_et hWξ 1 B ln tk n9ξ od pi cd) rfl (j := 37) rfl rfl (by decide +kernel) (zd_X12_orders (47, .invokevirtual 385, 3, 0, []) (List.mem_of_getElem? (i := 24) rfl)) [(a : Int)] rfl ⟨zp_o2 hpξ, trivial⟩ (Nat.le_of_ble_eq_true rfl) hDξ (fun al halξ rne Pe Ge hexteξ hfreξ hokeξ hcseξ hpsieξ => ?_)
    obtain rfl := List.mem_singleton.mp halξ
    obtain ⟨rfl, hteξ⟩ := hpsieξ
    obtain ⟨t20, t13, t30, t1, -⟩ := hteξ
    obtain ⟨t19, t18⟩ := t1 rfl
    have t19 : Ge a 19 = 1 := t19
    have t30 : Ge a 30 = (od : Int) := t30
    have t13 : Ge a 13 = 0 := t13
    have t20 : Ge a 20 = 0 := t20
    have hgReξ := zo_rg_f hgRξ hpξ hfreξ rfl
    refine zp_load (pc := 50) hx hb (zd_X12_orders (50, .aload_n 0, 1, 0, []) (List.mem_of_getElem? (i := 25) rfl)) rfl (j := 0) rfl ?_
    refine zp_getf (n := 1) (pc := 51) hx hb hEξ hwξ (zd_X12_orders (51, .getfield 240, 3, 0, []) (List.mem_of_getElem? (i := 26) rfl)) (j := 37) rfl rfl rfl hpξ t19 ?_
    refine zp_if (pc := 54) (tgt := 64) hx hb (zd_X12_orders (54, .ifCond .eq 10, 3, 0, []) (List.mem_of_getElem? (i := 27) rfl)) rfl (fun (hcq387ξ : 1 = 0) => ?_) (fun (hcq387ξ : ¬ (1 = 0)) => ?_)
    · exfalso
      omega
    · refine zp_load (pc := 57) hx hb (zd_X12_orders (57, .aload_n 0, 1, 0, []) (List.mem_of_getElem? (i := 28) rfl)) rfl (j := 0) rfl ?_
      refine zp_const (pc := 58) hx hb (zd_X12_orders (58, .bipush (-6), 2, 0, []) (List.mem_of_getElem? (i := 29) rfl)) rfl rfl ?_
      obtain ⟨V1, w1ξ, w2, w3, -⟩ := hcellsξ Ge hgReξ t13 t20 (by rw [t30]; omega)
      have w20 : V1 0 20 = 0 := w2.2.2.2.2.1
      refine zp_call (pc := 60) (how := 0) (idx := 170) (mi := 183) (S := []) hx hb hEξ hwξ heffξ hrmξ (zX_tllq hWξ A V1 w20) rfl (j := 0) rfl rfl (by decide +kernel) (zd_X12_orders (60, .invokevirtual 170, 3, 0, []) (List.mem_of_getElem? (i := 30) rfl)) [(a : Int), (-6)] rfl ⟨zp_o2 hpξ, zp_o0 (by omega) (by omega) (by omega) (by omega), trivial⟩ (Nat.le_of_ble_eq_true rfl) ⟨w1ξ, congrArg Int.ofNat haξ, (show (-6 : Int) ≤ -6 by decide)⟩ (fun al halξ rnt Pt Gt hexttξ hfrtξ hoktξ hcstξ hpsitξ => ?_)
      obtain rfl := List.mem_singleton.mp halξ
      have hrtξ := zp_int (hoktξ _ rfl).1
      obtain ⟨hPe9ξ, hMV9ξ, hrn9ξ⟩ := hpsitξ
      have hrn9ξ : rnt = -6 := hrn9ξ
      subst hPe9ξ
      refine zp_iret (pc := 63) (n := rnt) hx hb hEξ hQξ hU5ξ rfl (by decide) (zd_X12_orders (63, .ireturn, 1, 0, []) (List.mem_of_getElem? (i := 31) rfl)) (j := 0) rfl (zp_o0 (by omega) (by omega) (by omega) (by omega)) ?_
      rw [hpsξ]
      refine ⟨rfl, Sum.inl q, V1, hyTξ, w2, Or.inl ⟨q, rfl, (w3 18 rfl).trans (t18.trans h18ξ), hrn9ξ, ?_⟩⟩
      exact hMV9ξ
  have hbad0ξ : ∀ (q : Nat) (G : Nat → Nat → Int), zo_rg a u.1 (zp_n u.2.1) G → zBad a G B ln → G a 18 = (zy_fr B ln q : Int) → yT (zy_so B ln) (zy_wo B ln) (zy_to B ln) (yt_co (zy_so B ln) (zy_wo B ln) (zy_to B ln) (ylf true B ln)) 12 0 0 (Sum.inl q) → zp_J p l e R s m args below meth c Q w u [] 19 [(0, 2, (a : Int))] [] u.1 G := by
    clear h64ξ h64aξ
    intro q G hgRξ hbdξ h18ξ hyTξ
    have hbd0ξ := hbdξ
    obtain ⟨tk, n9ξ, od, pi, cd, hDξ⟩ := hbdξ
    have hD2ξ := hDξ
    obtain ⟨⟨d13, dl, dt, d12, dB⟩, ⟨d14, d15, d16, d17⟩, ⟨d19, d18⟩, ⟨d23, d24, d25⟩, d26, ⟨d29, dp⟩, d30⟩ := hD2ξ
    refine zp_load (pc := 19) hx hb (zd_X12_orders (19, .aload_n 0, 1, 0, []) (List.mem_of_getElem? (i := 11) rfl)) rfl (j := 0) rfl ?_
    refine zp_getf (n := 1) (pc := 20) hx hb hEξ hwξ (zd_X12_orders (20, .getfield 240, 3, 0, []) (List.mem_of_getElem? (i := 12) rfl)) (j := 37) rfl rfl rfl hpξ d19 ?_
    refine zp_if (pc := 23) (tgt := 46) hx hb (zd_X12_orders (23, .ifCond .ne 23, 3, 0, []) (List.mem_of_getElem? (i := 13) rfl)) rfl (fun (hcq388ξ : ¬ 1 = 0) => ?_) (fun (hcq388ξ : ¬ (¬ 1 = 0)) => ?_)
    · exact hbadξ q G hgRξ hbd0ξ h18ξ hyTξ
    · exfalso
      omega
  have loopq : ∀ (n : Nat) (L : List yK) (p1ξ n1ξ od : Nat) (pi : List (Int × Int)) (cd : yC) (G : Nat → Nat → Int), 400 - zy_fr B ln p1ξ < n → zo_rg a u.1 (zp_n u.2.1) G → zD a G 0 B ln p1ξ n1ξ od pi cd → n1ξ ≤ 50 → cd.2.2 ≤ zy_fr B ln p1ξ → zDw u.1 true a G → zDt u.1 a G → G a 21 = (L.length : Int) → 1 ≤ L.length → L.length ≤ 12 → zOs (zv G a 56) cd.1 cd.2.1 cd.2.2 0 L → (∀ t, yTb (zy_so B ln) (zy_wo B ln) (zy_to B ln) (yt_co (zy_so B ln) (zy_wo B ln) (zy_to B ln) (ylf true B ln)) (12 - L.length) p1ξ n1ξ t → yT (zy_so B ln) (zy_wo B ln) (zy_to B ln) (yt_co (zy_so B ln) (zy_wo B ln) (zy_to B ln) (ylf true B ln)) 12 0 0 (yTg L t)) → zp_J p l e R s m args below meth c Q w u [] 19 [(0, 2, (a : Int))] [] u.1 G := by
    clear h64ξ h64aξ hbadξ
    intro n
    induction n with
    | zero => intro L p1ξ n1ξ od pi cd G h; exact absurd h (Nat.not_lt_zero _)
    | succ n ih =>
      intro L p1ξ n1ξ od pi cd G hnξ hgRξ hDξ hn5ξ hc5ξ hwGξ hTGξ g21 hL1ξ hL12ξ hLsξ hTξ
      have hD2ξ := hDξ
      obtain ⟨⟨d13, dl, dt, d12, dB⟩, ⟨d14, d15, d16, d17⟩, ⟨d19, d18⟩, ⟨d23, dv24, dv25⟩, d26, ⟨d29, dp⟩, d30⟩ := hD2ξ
      have hfξ := zy_nx (B := B) dt
      have hflξ := zy_fr_le (B := B) dt
      refine zp_load (pc := 19) hx hb (zd_X12_orders (19, .aload_n 0, 1, 0, []) (List.mem_of_getElem? (i := 11) rfl)) rfl (j := 0) rfl ?_
      refine zp_getf (n := 0) (pc := 20) hx hb hEξ hwξ (zd_X12_orders (20, .getfield 240, 3, 0, []) (List.mem_of_getElem? (i := 12) rfl)) (j := 37) rfl rfl rfl hpξ d19 ?_
      refine zp_if (pc := 23) (tgt := 46) hx hb (zd_X12_orders (23, .ifCond .ne 23, 3, 0, []) (List.mem_of_getElem? (i := 13) rfl)) rfl (fun (hcq389ξ : ¬ 0 = 0) => ?_) (fun (hcq389ξ : ¬ (¬ 0 = 0)) => ?_)
      · exfalso
        omega
      · refine zp_load (pc := 26) hx hb (zd_X12_orders (26, .aload_n 0, 1, 0, []) (List.mem_of_getElem? (i := 14) rfl)) rfl (j := 0) rfl ?_
        refine zp_const (pc := 27) hx hb (zd_X12_orders (27, .bipush 59, 2, 0, []) (List.mem_of_getElem? (i := 15) rfl)) rfl rfl ?_
        refine zp_call (pc := 29) (how := 0) (idx := 313) (mi := 221) (S := []) hx hb hEξ hwξ heffξ hrmξ (zY_si hWξ) rfl (j := 23) rfl rfl (by decide +kernel) (zd_X12_orders (29, .invokevirtual 313, 3, 0, []) (List.mem_of_getElem? (i := 16) rfl)) [(a : Int), 59] rfl ⟨zp_o2 hpξ, zp_o0 (by decide) (by decide) (by decide) (by decide), trivial⟩ (Nat.le_of_ble_eq_true rfl) trivial (fun al halξ rns Ps Gs hextsξ hfrsξ hoksξ hcssξ hpsisξ => ?_)
        obtain rfl := List.mem_singleton.mp halξ
        have hrsξ := zp_int (hoksξ _ rfl).1
        obtain ⟨hPesξ, hGesξ, htsξ⟩ := hpsisξ
        rw [hPesξ, hGesξ]
        have htsξ : rns = 1 ↔ G a 16 = 3 ∧ G a 17 = 59 := htsξ
        rw [d16, d17] at htsξ
        refine zp_if (pc := 32) (tgt := 46) hx hb (zd_X12_orders (32, .ifCond .eq 14, 3, 0, []) (List.mem_of_getElem? (i := 17) rfl)) rfl (fun (hcq390ξ : rns = 0) => ?_) (fun (hcq390ξ : ¬ (rns = 0)) => ?_)
        · refine zp_load (pc := 46) hx hb (zd_X12_orders (46, .aload_n 0, 1, 0, []) (List.mem_of_getElem? (i := 23) rfl)) rfl (j := 0) rfl ?_
          refine zp_call (pc := 47) (how := 0) (idx := 385) (mi := 235) (S := []) hx hb hEξ hwξ heffξ hrmξ (zY_et hWξ 0 B ln p1ξ n1ξ od pi cd) rfl (j := 37) rfl rfl (by decide +kernel) (zd_X12_orders (47, .invokevirtual 385, 3, 0, []) (List.mem_of_getElem? (i := 24) rfl)) [(a : Int)] rfl ⟨zp_o2 hpξ, trivial⟩ (Nat.le_of_ble_eq_true rfl) hDξ (fun al halξ rne Pe Ge hexteξ hfreξ hokeξ hcseξ hpsieξ => ?_)
          obtain rfl := List.mem_singleton.mp halξ
          obtain ⟨rfl, hteξ⟩ := hpsieξ
          obtain ⟨t20, t13, t30, -, t1⟩ := hteξ
          obtain ⟨t2, t4⟩ := t1 rfl
          have t13 : Ge a 13 = 0 := t13
          have t20 : Ge a 20 = 0 := t20
          have t30 : Ge a 30 = (od : Int) := t30
          have hgReξ := zo_rg_f hgRξ hpξ hfreξ rfl
          have hnsξ : ¬ yr_s (zy_so B ln) (zy_wo B ln) 59 p1ξ = true := fun z => by have := yr_s_i.mp z; omega
          by_cases hso0ξ : zy_so B ln p1ξ = 0
          · obtain ⟨t19, t18⟩ := t2 hso0ξ
            have t19 : Ge a 19 = 0 := t19
            have t18 : Ge a 18 = -1 := t18.trans (d18 rfl)
            have hyTξ := hTξ (Sum.inr []) (by unfold yTb; rw [if_pos hso0ξ])
            have hyTξ : yT (zy_so B ln) (zy_wo B ln) (zy_to B ln) (yt_co (zy_so B ln) (zy_wo B ln) (zy_to B ln) (ylf true B ln)) 12 0 0 (Sum.inr L) := by
              have e : yTg L (Sum.inr []) = Sum.inr (L ++ []) := rfl
              rw [e, List.append_nil] at hyTξ
              exact hyTξ
            have t21 : Ge a 21 = (L.length : Int) := (zp_nf hfreξ hpξ rfl).trans g21
            have c24 : G a 24 = (A 24 : Int) := (hgRξ.1.1 24 (by decide) rfl).trans g24
            have e24 : Ge a 24 = (A 24 : Int) := (zp_nf hfreξ hpξ rfl).trans c24
            have c25 : G a 25 = (A 25 : Int) := (hgRξ.1.1 25 (by decide) rfl).trans g25
            have e25 : Ge a 25 = (A 25 : Int) := (zp_nf hfreξ hpξ rfl).trans c25
            have c56 : G a 56 = (A 56 : Int) := (hgRξ.1.1 56 (by decide) rfl).trans g56
            have e56 : Ge a 56 = (A 56 : Int) := (zp_nf hfreξ hpξ rfl).trans c56
            have hLeξ : zOs (zv Ge a 56) (zv Ge a 24) (zv Ge a 25) cd.2.2 0 L := zOs_c (N := cd.2.2) (Nat.le_refl _) (fun j _ => ⟨?_, ?_⟩) hLsξ (fun j _ _ => ?_)
            rotate_left
            · rw [zv_eq e24, zp_nc hfreξ q24 rfl, ← zv_eq c24]; exact dv24 j
            · rw [zv_eq e25, zp_nc hfreξ q25 rfl, ← zv_eq c25]; exact dv25 j
            · rw [zv_eq e56, zp_nc hfreξ q56 rfl, ← zv_eq c56]
            refine zp_load (pc := 50) hx hb (zd_X12_orders (50, .aload_n 0, 1, 0, []) (List.mem_of_getElem? (i := 25) rfl)) rfl (j := 0) rfl ?_
            refine zp_getf (n := 0) (pc := 51) hx hb hEξ hwξ (zd_X12_orders (51, .getfield 240, 3, 0, []) (List.mem_of_getElem? (i := 26) rfl)) (j := 37) rfl rfl rfl hpξ t19 ?_
            refine zp_if (pc := 54) (tgt := 64) hx hb (zd_X12_orders (54, .ifCond .eq 10, 3, 0, []) (List.mem_of_getElem? (i := 27) rfl)) rfl (fun (hcq391ξ : 0 = 0) => ?_) (fun (hcq391ξ : ¬ (0 = 0)) => ?_)
            · exact hrv9ξ L Ge cd.2.2 hgReξ t13 t20 (by rw [t30]; omega) t18 t21 hL12ξ (by omega) hLeξ hyTξ
            · exfalso
              omega
          · obtain ⟨t19, t18⟩ := t4 hso0ξ
            have t19 : Ge a 19 = 1 := t19
            have hyTξ : yT (zy_so B ln) (zy_wo B ln) (zy_to B ln) (yt_co (zy_so B ln) (zy_wo B ln) (zy_to B ln) (ylf true B ln)) 12 0 0 (Sum.inl p1ξ) := hTξ (Sum.inl p1ξ) (by unfold yTb; rw [if_neg hso0ξ, if_neg hnsξ])
            refine zp_load (pc := 50) hx hb (zd_X12_orders (50, .aload_n 0, 1, 0, []) (List.mem_of_getElem? (i := 25) rfl)) rfl (j := 0) rfl ?_
            refine zp_getf (n := 1) (pc := 51) hx hb hEξ hwξ (zd_X12_orders (51, .getfield 240, 3, 0, []) (List.mem_of_getElem? (i := 26) rfl)) (j := 37) rfl rfl rfl hpξ t19 ?_
            refine zp_if (pc := 54) (tgt := 64) hx hb (zd_X12_orders (54, .ifCond .eq 10, 3, 0, []) (List.mem_of_getElem? (i := 27) rfl)) rfl (fun (hcq392ξ : 1 = 0) => ?_) (fun (hcq392ξ : ¬ (1 = 0)) => ?_)
            · exfalso
              omega
            · refine zp_load (pc := 57) hx hb (zd_X12_orders (57, .aload_n 0, 1, 0, []) (List.mem_of_getElem? (i := 28) rfl)) rfl (j := 0) rfl ?_
              refine zp_const (pc := 58) hx hb (zd_X12_orders (58, .bipush (-6), 2, 0, []) (List.mem_of_getElem? (i := 29) rfl)) rfl rfl ?_
              obtain ⟨V1, w1ξ, w2, w3, -⟩ := hcellsξ Ge hgReξ t13 t20 (by rw [t30]; omega)
              have w20 : V1 0 20 = 0 := w2.2.2.2.2.1
              refine zp_call (pc := 60) (how := 0) (idx := 170) (mi := 183) (S := []) hx hb hEξ hwξ heffξ hrmξ (zX_tllq hWξ A V1 w20) rfl (j := 0) rfl rfl (by decide +kernel) (zd_X12_orders (60, .invokevirtual 170, 3, 0, []) (List.mem_of_getElem? (i := 30) rfl)) [(a : Int), (-6)] rfl ⟨zp_o2 hpξ, zp_o0 (by omega) (by omega) (by omega) (by omega), trivial⟩ (Nat.le_of_ble_eq_true rfl) ⟨w1ξ, congrArg Int.ofNat haξ, (show (-6 : Int) ≤ -6 by decide)⟩ (fun al halξ rnt Pt Gt hexttξ hfrtξ hoktξ hcstξ hpsitξ => ?_)
              obtain rfl := List.mem_singleton.mp halξ
              have hrtξ := zp_int (hoktξ _ rfl).1
              obtain ⟨hPe9ξ, hMV9ξ, hrn9ξ⟩ := hpsitξ
              have hrn9ξ : rnt = -6 := hrn9ξ
              subst hPe9ξ
              refine zp_iret (pc := 63) (n := rnt) hx hb hEξ hQξ hU5ξ rfl (by decide) (zd_X12_orders (63, .ireturn, 1, 0, []) (List.mem_of_getElem? (i := 31) rfl)) (j := 0) rfl (zp_o0 (by omega) (by omega) (by omega) (by omega)) ?_
              rw [hpsξ]
              refine ⟨rfl, Sum.inl p1ξ, V1, hyTξ, w2, Or.inl ⟨p1ξ, rfl, (w3 18 rfl).trans (t18), hrn9ξ, ?_⟩⟩
              exact hMV9ξ
        · refine zp_load (pc := 35) hx hb (zd_X12_orders (35, .aload_n 0, 1, 0, []) (List.mem_of_getElem? (i := 18) rfl)) rfl (j := 0) rfl ?_
          have hs3ξ : zy_so B ln p1ξ ≠ 0 := by omega
          have hf3ξ := hfξ.2.2 hs3ξ
          have hysξ : yr_s (zy_so B ln) (zy_wo B ln) 59 p1ξ = true := yr_s_i.mpr ⟨by omega, by omega⟩
          refine zp_call (pc := 36) (how := 0) (idx := 244) (mi := 212) (S := []) hx hb hEξ hwξ heffξ hrmξ (zY_nx hWξ B ln (zy_to B ln p1ξ)) rfl (j := 14) rfl rfl (by decide +kernel) (zd_X12_orders (36, .invokevirtual 244, 3, 0, []) (List.mem_of_getElem? (i := 19) rfl)) [(a : Int)] rfl ⟨zp_o2 hpξ, trivial⟩ (Nat.le_of_ble_eq_true rfl) (zD_y hDξ) (fun al halξ rnn Pn Gn hextnξ hfrnξ hoknξ hcsnξ hpsinξ => ?_)
          obtain rfl := List.mem_singleton.mp halξ
          obtain ⟨rfl, htnξ⟩ := hpsinξ
          have hDnξ := zD_nx hDξ htnξ
          have hwnξ := zDw_fr hwGξ hpξ hfrnξ rfl
          have hTnξ := zDt_fr hTGξ hpξ hfrnξ rfl
          have hgRnξ := zo_rg_f hgRξ hpξ hfrnξ rfl
          refine zp_load (pc := 39) hx hb (zd_X12_orders (39, .aload_n 0, 1, 0, []) (List.mem_of_getElem? (i := 20) rfl)) rfl (j := 0) rfl ?_
          refine zp_call (pc := 40) (how := 0) (idx := 549) (mi := 288) (S := []) hx hb hEξ hwξ heffξ hrmξ (zY_ro hWξ L.length B ln (zy_to B ln p1ξ) n1ξ od pi cd) rfl (j := 69) rfl rfl (by decide +kernel) (zd_X12_orders (40, .invokevirtual 549, 3, 0, []) (List.mem_of_getElem? (i := 21) rfl)) [(a : Int)] rfl ⟨zp_o2 hpξ, trivial⟩ (Nat.le_of_ble_eq_true rfl) ⟨hDnξ, hn5ξ, by omega, hwnξ, hTnξ, (zp_nf hfrnξ hpξ rfl).trans g21, hL12ξ⟩ (fun al halξ rnl Pl Gl hextlξ hfrlξ hoklξ hcslξ hpsilξ => ?_)
          obtain rfl := List.mem_singleton.mp halξ
          obtain ⟨rfl, htlξ⟩ := hpsilξ
          have htlξ : zDrd a Gn Gl B ln (zy_to B ln p1ξ) n1ξ L.length cd := htlξ
          have hwlξ := zDw_fr hwnξ hpξ hfrlξ rfl
          have hTlξ := zDt_fr hTnξ hpξ hfrlξ rfl
          have hgRlξ := zo_rg_f hgRnξ hpξ hfrlξ rfl
          refine zp_goto (tgt := 19) (pc := 43) hx hb (zd_X12_orders (43, .goto (-24), 3, 0, []) (List.mem_of_getElem? (i := 22) rfl)) rfl ?_
          by_cases h12ξ : L.length = 12
          · obtain ⟨y1, y2⟩ := htlξ.1 h12ξ
            exact hbad0ξ _ Gl hgRlξ y1 y2 (hTξ (Sum.inl (zy_to B ln p1ξ)) (by unfold yTb; rw [if_neg hs3ξ, if_pos hysξ]; rw [h12ξ]; rfl))
          obtain ⟨sq, hsqξ, hcsξ⟩ := htlξ.2 (by omega)
          have hmξ : 12 - L.length = (12 - (L.length + 1)) + 1 := by omega
          rcases hcsξ with ⟨q, hqξ, y1, y2⟩ | ⟨p2ξ, n2ξ, K, od2, pi2, cd2, hqξ, hD2ξ, hn2ξ, hc2ξ, hccξ, holdξ, h21nξ, h22nξ, hKξ, hfr2ξ⟩
          · subst hqξ
            exact hbad0ξ q Gl hgRlξ y1 y2 (hTξ (Sum.inl q) (by unfold yTb; rw [if_neg hs3ξ, if_pos hysξ]; rw [hmξ]; exact ⟨_, hsqξ, Or.inl ⟨q, rfl, rfl⟩⟩))
          · subst hqξ
            have hln2ξ : (L ++ [K]).length = L.length + 1 := by rw [List.length_append]; rfl
            have hp2ξ := zy_fr_le (B := B) hD2ξ.1.2.2.1
            refine ih (L ++ [K]) p2ξ n2ξ od2 pi2 cd2 Gl (by omega) hgRlξ hD2ξ hn2ξ hc2ξ hwlξ hTlξ (by rw [hln2ξ]; exact h21nξ) (by omega) (by omega) ?_ (fun t htξ => ?_)
            · refine zOs_app (zOs_c hccξ holdξ hLsξ (fun j _ hjξ => ?_)) ?_
              · rw [h22nξ j (by omega)]
                exact zDx_v htnξ (by decide) (by decide) (by decide) (by decide) j
              · rw [Nat.zero_add]
                exact hKξ
            · have h9ξ := hTξ (yTg [K] t) (by unfold yTb; rw [if_neg hs3ξ, if_pos hysξ]; rw [hmξ]; rw [hln2ξ] at htξ; exact yT_b hsqξ htξ)
              rw [yTg_g] at h9ξ
              exact h9ξ
  show zp_J p l e R s m args below meth c Q w u [] 0 [(0, 2, (a : Int))] [] u.1 (zp_n u.2.1)
  refine zp_load (pc := 0) hx hb (zd_X12_orders (0, .aload_n 0, 1, 0, []) (List.mem_of_getElem? (i := 0) rfl)) rfl (j := 0) rfl ?_
  refine zp_const (pc := 1) hx hb (zd_X12_orders (1, .iconst 0, 1, 0, []) (List.mem_of_getElem? (i := 1) rfl)) rfl rfl ?_
  refine zp_putf (pc := 2) hx hb hEξ hwξ heffξ (zd_X12_orders (2, .putfield 161, 3, 0, []) (List.mem_of_getElem? (i := 2) rfl)) (j := 18) rfl rfl rfl hpξ (zp_o0 (by decide) (by decide) (by decide) (by decide)) ?_
  refine zp_load (pc := 5) hx hb (zd_X12_orders (5, .aload_n 0, 1, 0, []) (List.mem_of_getElem? (i := 3) rfl)) rfl (j := 0) rfl ?_
  refine zp_const (pc := 6) hx hb (zd_X12_orders (6, .iconst (-1), 1, 0, []) (List.mem_of_getElem? (i := 4) rfl)) rfl rfl ?_
  refine zp_putf (pc := 7) hx hb hEξ hwξ heffξ (zd_X12_orders (7, .putfield 152, 3, 0, []) (List.mem_of_getElem? (i := 5) rfl)) (j := 77) rfl rfl rfl hpξ (zp_o0 (by decide) (by decide) (by decide) (by decide)) ?_
  refine zp_load (pc := 10) hx hb (zd_X12_orders (10, .aload_n 0, 1, 0, []) (List.mem_of_getElem? (i := 6) rfl)) rfl (j := 0) rfl ?_
  refine zp_const (pc := 11) hx hb (zd_X12_orders (11, .iconst 1, 1, 0, []) (List.mem_of_getElem? (i := 7) rfl)) rfl rfl ?_
  have c30 : (zp_set (zp_set (zp_n u.2.1) a 0 0) a 59 (-1)) a 30 = zp_n u.2.1 a 30 := ((zp_set_ne (Or.inr (by decide))).trans ((zp_set_ne (Or.inr (by decide)))))
  refine zp_call (pc := 12) (how := 0) (idx := 379) (mi := 210) (S := []) hx hb hEξ hwξ heffξ hrmξ (zY_bx hWξ B ln) rfl (j := 12) rfl rfl (by decide +kernel) (zd_X12_orders (12, .invokevirtual 379, 3, 0, []) (List.mem_of_getElem? (i := 8) rfl)) [(a : Int), 1] rfl ⟨zp_o2 hpξ, zp_o0 (by decide) (by decide) (by decide) (by decide), trivial⟩ (Nat.le_of_ble_eq_true rfl) ⟨(zp_set_ne (Or.inr (by decide))).trans ((zp_set_ne (Or.inr (by decide))).trans (h13aξ)), hl4ξ, fun j => (zv_sf (by decide) (Or.inr (by decide))).trans ((zv_sf (by decide) (Or.inr (by decide))).trans (h12aξ j)), hBξ, (show 0 ≤ (zp_set (zp_set (zp_n u.2.1) a 0 0) a 59 (-1)) a 30 by rw [c30]; exact h30aξ)⟩ (fun al halξ rnb Pb Gb hextbξ hfrbξ hokbξ hcsbξ hpsibξ => ?_)
  obtain rfl := List.mem_singleton.mp halξ
  obtain ⟨rfl, htbξ⟩ := hpsibξ
  obtain ⟨x1, x2, x18, x20, x21, od, pi, hDbξ⟩ := htbξ
  have nb : ∀ b t, u.1 b = some t → t ≠ 92 → ∀ j, Gb b j = zp_n u.2.1 b j := fun b t hbtξ htξ j => (x2 b j (zp_pne hbtξ hpξ htξ)).trans ((zp_set_ne (Or.inl (zp_pne hbtξ hpξ htξ))).trans (zp_set_ne (Or.inl (zp_pne hbtξ hpξ htξ))))
  have hwbξ : zDw u.1 true a Gb := by
    obtain ⟨y0, b31, b32, ⟨y1, y2, y3⟩, y4, y5, y6⟩ := hw0ξ
    exact ⟨x20, b31, b32, ⟨((x1 31 (by decide) (by decide) (by decide) (by decide) (by decide) (by decide) (by decide) (by decide) (by decide) (by decide)).trans ((zp_set_ne (Or.inr (by decide))).trans (zp_set_ne (Or.inr (by decide))))).trans y1, y2, fun k hkξ => (nb _ _ y2 (by decide) _).trans (y3 k hkξ)⟩, ((x1 32 (by decide) (by decide) (by decide) (by decide) (by decide) (by decide) (by decide) (by decide) (by decide) (by decide)).trans ((zp_set_ne (Or.inr (by decide))).trans (zp_set_ne (Or.inr (by decide))))).trans y4, y5, fun k hkξ => (nb _ _ y5 (by decide) _).trans (y6 k hkξ)⟩
  have hTbξ : zDt u.1 a Gb := by
    obtain ⟨c12, c24, c25, c27, c28, ⟨⟨e12, p12⟩, ⟨e24, p24⟩, ⟨e25, p25⟩⟩, ⟨e27, p27⟩, ⟨e28, p28⟩⟩ := hT0ξ
    exact ⟨c12, c24, c25, c27, c28, ⟨⟨((x1 12 (by decide) (by decide) (by decide) (by decide) (by decide) (by decide) (by decide) (by decide) (by decide) (by decide)).trans ((zp_set_ne (Or.inr (by decide))).trans (zp_set_ne (Or.inr (by decide))))).trans e12, p12⟩, ⟨((x1 24 (by decide) (by decide) (by decide) (by decide) (by decide) (by decide) (by decide) (by decide) (by decide) (by decide)).trans ((zp_set_ne (Or.inr (by decide))).trans (zp_set_ne (Or.inr (by decide))))).trans e24, p24⟩, ⟨((x1 25 (by decide) (by decide) (by decide) (by decide) (by decide) (by decide) (by decide) (by decide) (by decide) (by decide)).trans ((zp_set_ne (Or.inr (by decide))).trans (zp_set_ne (Or.inr (by decide))))).trans e25, p25⟩⟩, ⟨((x1 27 (by decide) (by decide) (by decide) (by decide) (by decide) (by decide) (by decide) (by decide) (by decide) (by decide)).trans ((zp_set_ne (Or.inr (by decide))).trans (zp_set_ne (Or.inr (by decide))))).trans e27, p27⟩, ⟨((x1 28 (by decide) (by decide) (by decide) (by decide) (by decide) (by decide) (by decide) (by decide) (by decide) (by decide)).trans ((zp_set_ne (Or.inr (by decide))).trans (zp_set_ne (Or.inr (by decide))))).trans e28, p28⟩⟩
  have hgRbξ : zo_rg a u.1 (zp_n u.2.1) Gb := ⟨zo_rf_f (zo_rf_s (zo_rf_s zo_rf_i hpξ rfl) hpξ rfl) hpξ hfrbξ rfl, (zp_nf hfrbξ hpξ rfl).trans ((zp_set_ne (Or.inr (by decide))).trans zp_set_self), (zp_nf hfrbξ hpξ rfl).trans zp_set_self⟩
  have hbx21ξ : Gb a 21 = ((0 : Nat) : Int) := x21
  refine zp_load (pc := 15) hx hb (zd_X12_orders (15, .aload_n 0, 1, 0, []) (List.mem_of_getElem? (i := 9) rfl)) rfl (j := 0) rfl ?_
  refine zp_call (pc := 16) (how := 0) (idx := 549) (mi := 288) (S := []) hx hb hEξ hwξ heffξ hrmξ (zY_ro hWξ 0 B ln 0 0 od pi (fun j => zv (zp_set (zp_set (zp_n u.2.1) a 0 0) a 59 (-1)) a 24 j, fun j => zv (zp_set (zp_set (zp_n u.2.1) a 0 0) a 59 (-1)) a 25 j, 0)) rfl (j := 69) rfl rfl (by decide +kernel) (zd_X12_orders (16, .invokevirtual 549, 3, 0, []) (List.mem_of_getElem? (i := 10) rfl)) [(a : Int)] rfl ⟨zp_o2 hpξ, trivial⟩ (Nat.le_of_ble_eq_true rfl) ⟨hDbξ, by decide, Nat.zero_le _, hwbξ, hTbξ, hbx21ξ, by decide⟩ (fun al halξ rnl Pl Gl hextlξ hfrlξ hoklξ hcslξ hpsilξ => ?_)
  obtain rfl := List.mem_singleton.mp halξ
  obtain ⟨rfl, htlξ⟩ := hpsilξ
  have hwlξ := zDw_fr hwbξ hpξ hfrlξ rfl
  have hTlξ := zDt_fr hTbξ hpξ hfrlξ rfl
  have hgRlξ := zo_rg_f hgRbξ hpξ hfrlξ rfl
  obtain ⟨sq, hsqξ, hcsξ⟩ := htlξ.2 (by decide)
  rcases hcsξ with ⟨q, hqξ, y1, y2⟩ | ⟨p2ξ, n2ξ, K, od2, pi2, cd2, hqξ, hD2ξ, hn2ξ, hc2ξ, hccξ, holdξ, h21nξ, h22nξ, hKξ, hfr2ξ⟩
  · subst hqξ
    exact hbad0ξ q Gl hgRlξ y1 y2 ⟨_, hsqξ, Or.inl ⟨q, rfl, rfl⟩⟩
  · subst hqξ
    exact loopq 401 [K] p2ξ n2ξ od2 pi2 cd2 Gl (by omega) hgRlξ hD2ξ hn2ξ hc2ξ hwlξ hTlξ h21nξ (Nat.le_of_ble_eq_true rfl) (Nat.le_of_ble_eq_true rfl) ⟨hKξ, trivial⟩ (fun t htξ => yT_b hsqξ htξ)
