/-! part lz: the reference's law and orders for the model of type 13 -/
noncomputable def zψ_lx13 (B : Nat → Int) (ln : Nat) : (Nat → Option Nat) → (Nat → Nat → Int) → List Int → (Nat → Option Nat) → (Nat → Nat → Int) → Int → Prop := fun P G ps _ G' rn => zDl (zp_0 ps) G G' B ln rn ∧ ∀ b2 : Nat, G (zp_0 ps) 2 = (b2 : Int) → P b2 = some 58 → zDts (zp_0 ps) b2 G G' rn
theorem zY_lx13 {l : Launch} {w : zk_W} (hW : zh_W w) (B : Nat → Int) (ln : Nat) : zk_metX l w zt_dv zt_TB (zp_swK zK_lw 92 13) (zp_A (zφ_13 B ln)) (zp_B (zψ_lx13 B ln)) ∧ zk_cok w zt_TB (zp_swK zK_lw 92 13) := by
  have h2 := zp_swap (l := l) (φ' := zφD_lwx B ln) (ψ' := zψ_lx13 B ln) hW (Or.inr ⟨rfl, rfl⟩) (zY_lwx hW B ln) (by decide +kernel) (fun P G ps a h0 hp hφ => ⟨fun z => absurd z (by decide), by
    have e0 : zp_0 ps = a := zp_00 h0
    unfold zφD_lwx at hφ ⊢
    rw [e0] at hφ ⊢
    obtain ⟨c1, c2, c3, c4, c5, c6, c7⟩ := hφ
    exact ⟨c1, c2, c3, c4, c5, zs_w hp c6, zs_h hp c7⟩⟩) (fun P G ps P' G' rn a h0 hp hφ hp' h13 hfr hψ2 => ⟨fun _ => by
    have h3 := hψ2.2.1.2.2.1
    rw [zp_00 h0] at h3
    exact h3, hψ2.2.1, fun b2 hb2 hq2 => hψ2.2.2 b2 hb2 (zs_ty hp hq2 (by decide))⟩)
  refine zp_ofA h2 (fun P F ps U H hwt hps hφ => ?_)
  have hps : zk_all2 (zk_ok P) [(2, 13, 0, 0)] ps := hps
  obtain ⟨n, rs, rfl, hn, -⟩ := zk_all2_cons hps
  obtain ⟨a, rfl, hpa⟩ := zp_this hn
  exact zs_13 hW.1 hwt hpa hφ
/-- where all orders come to, it still holds -/
theorem zRI_csx {n1 np : Nat} {Lw : List yK} : ∀ {L : List yK} {i : Nat} {V : Nat → Nat → Int} {nu : Nat}, zRI V nu n1 np Lw → ∃ nu' : Nat, zRI (zo_cs n1 np Lw L i V).2 nu' n1 np Lw
  | [], _, _, nu, hI => ⟨nu, hI⟩
  | K :: r, i, V, nu, hI => by
    obtain ⟨h1, nu', hI'⟩ := zKr_tm (K := K) (t := K.2.2.2.1.toNat) hI
    rw [zo_cs]
    split
    · exact zRI_csx hI'
    · exact ⟨nu', hI'⟩
theorem zRI_bex {V : Nat → Nat → Int} {nu n1 np : Nat} {Lw : List yK} (h : zRI V nu n1 np Lw) : zRI (zo_be V) nu n1 np Lw :=
  zRI_e (fun k => zo_be_o (by decide) (by decide) (by decide) (Or.inl (by decide))) (zo_be_o (by decide) (by decide) (by decide) (Or.inr (by decide))) (zo_be_o (by decide) (by decide) (by decide) (Or.inr (by decide))) (zo_be_o (by decide) (by decide) (by decide) (Or.inr (by decide))) h
theorem zo_all_20 {V : Nat → Nat → Int} {nu n1 np : Nat} {Lw L : List yK} (h : zRI V nu n1 np Lw) : (zo_all V nu n1 np Lw L).2 0 20 = 0 := by
  obtain ⟨nu', hI⟩ := zRI_csx (L := L) (i := 0) (zRI_bex h)
  have h20 := hI.1.2.2.2.2
  unfold zo_all
  split
  · exact (zT_tell_k (by decide) (Or.inr (by decide))).trans h20
  · show zT_tell (zp_set (zo_gb (zo_cs n1 np Lw L 0 (zo_be V)).2 (nu : Int)) 0 59 (zo_cs n1 np Lw L 0 (zo_be V)).1) (-3) 0 20 = 0
    refine (zT_tell_k (by decide) (Or.inr (by decide))).trans ((zp_set_ne (Or.inr (by decide))).trans ?_)
    unfold zo_gb
    rw [zp_set_ne (Or.inr (by decide)), zc_cp_o (by decide), zc_cp_o (by decide), zc_cp_o (by decide)]
    exact h20
/-- what comes of orders, of the model of type 13 -/
noncomputable def zo_prx (A : Nat → Nat) (V : Nat → Nat → Int) (ln nu n1 np : Nat) (B : Nat → Int) (Lw : List yK) (P' : Nat → Option Nat) (G' : Nat → Nat → Int) (rn : Int) : Prop := ∃ s V1, yT (zy_so B ln) (zy_wo B ln) (zy_to B ln) (yt_co (zy_so B ln) (zy_wo B ln) (zy_to B ln) (ylf true B ln)) 12 0 0 s ∧ zo_rd V V1 ∧ ((∃ q, s = Sum.inl q ∧ V1 0 18 = (zy_fr B ln q : Int) ∧ rn = -6 ∧ zMVr A (zT_tell V1 (-6)) P' G') ∨ ∃ (L : List yK) (z : Int), s = Sum.inr L ∧ V1 0 18 = -1 ∧ zMVr A (zp_set (zo_all V1 nu n1 np Lw L).2 0 60 z) P' G' ∧ rn = (zo_all V1 nu n1 np Lw L).1)
noncomputable def zφ_orx13 (A : Nat → Nat) (V : Nat → Nat → Int) (ln nu n1 np : Nat) (B : Nat → Int) (Lw : List yK) : (Nat → Option Nat) → (Nat → Nat → Int) → List Int → Prop := fun P G ps => zMVr A V P G ∧ ps.getD 0 0 = (A 0 : Int) ∧ V 0 13 = (ln : Int) ∧ ln ≤ 400 ∧ (∀ j, V 12 (2000 + j) = B j) ∧ (∀ j, 0 ≤ B j ∧ B j ≤ 255) ∧ 0 ≤ V 0 30 ∧ ((∀ k : Nat, k < 9 → V 31 (2000 + k) = ywd.getD k 0) ∧ ∀ k : Nat, k < 7 → V 32 (2000 + k) = ywo.getD k 0) ∧ zRI V nu n1 np Lw
noncomputable def zψ_orx13 (A : Nat → Nat) (V : Nat → Nat → Int) (ln nu n1 np : Nat) (B : Nat → Int) (Lw : List yK) : (Nat → Option Nat) → (Nat → Nat → Int) → List Int → (Nat → Option Nat) → (Nat → Nat → Int) → Int → Prop := fun P G ps P' G' rn => P' = P ∧ zo_prx A V ln nu n1 np B Lw P' G' rn
theorem zMVq_G {A : Nat → Nat} {V : Nat → Nat → Int} {P : Nat → Option Nat} {G : Nat → Nat → Int} (h : zMVq A V P G) : G (A 0) 20 = V 0 20 := by
  obtain ⟨M, m1, m2, -⟩ := h
  exact (zM_G m1 (o := 0) (t := 92) List.mem_cons_self 20).trans (m2 0 20 (Or.inr (by decide)))
theorem zX_orx13 {l : Launch} {w : zk_W} (hW : zh_W w) (A : Nat → Nat) (V : Nat → Nat → Int) (ln nu n1 np : Nat) (B : Nat → Int) (Lw : List yK) : zk_metX l w zt_dv zt_TB (zp_swK zK_orv 92 13) (zp_A (zφ_orx13 A V ln nu n1 np B Lw)) (zp_B (zψ_orx13 A V ln nu n1 np B Lw)) ∧ zk_cok w zt_TB (zp_swK zK_orv 92 13) :=
  zp_swap hW (Or.inr ⟨rfl, rfl⟩) (zX_orv hW A V ln nu n1 np B Lw) (by decide +kernel) (fun P G ps a h0 hp hφ => by
    obtain ⟨h1, h2, h3⟩ := hφ
    obtain rfl := zps0 h0 h2
    exact ⟨fun z => absurd z (by decide), zMr_swap h1, h2, h3⟩) (fun P G ps P' G' rn a h0 hp hφ hp' h13 hfr hψ => by
    obtain ⟨h1, h2, h3⟩ := hφ
    obtain rfl := zps0 h0 h2
    obtain ⟨e1, s, V1, e2, e3, e4⟩ := hψ
    have hI1 : zRI V1 nu n1 np Lw := zRI_rd e3 h3.2.2.2.2.2.2
    subst e1
    have hup : zk_up (zk_up P (A 0) (some 92)) (A 0) (some 13) = P := zk_up_up hp
    rcases e4 with ⟨q, q1, q2, q3, q4⟩ | ⟨L, z, q1, q2, q3, q4⟩
    · refine ⟨fun _ => ?_, hup, s, V1, e2, e3, Or.inl ⟨q, q1, q2, q3, ?_⟩⟩
      · rw [zMVq_G q4, zT_tell_k (by decide) (Or.inr (by decide))]
        exact e3.2.2.2.2.1
      · exact zMq_swap q4
    · refine ⟨fun _ => ?_, hup, s, V1, e2, e3, Or.inr ⟨L, z, q1, q2, ?_, q4⟩⟩
      · rw [zMVq_G q3, zp_set_ne (Or.inr (by decide))]
        exact zo_all_20 hI1
      · exact zMq_swap q3)
