/-! part 66: a contract for the model of the one type, for the model of the other -/
theorem zp_ok_ki {P P' : Nat → Option Nat} {f : zk_F} {n : Int} (hk : f.1 < 2) (h : zk_ok P f n) : zk_ok P' f n := by
  obtain ⟨k, t, lo, hi⟩ := f
  match k, hk, h with
  | 0, _, h => exact h
  | 1, _, h => exact h
theorem zp_oks_ki {P P' : Nat → Option Nat} : ∀ {fs : List zk_F} {ps : List Int}, fs.all (fun f => decide (f.1 < 2)) = true → zk_all2 (zk_ok P) fs ps → zk_all2 (zk_ok P') fs ps
  | [], [], _, _ => trivial
  | f :: fs, n :: ps, h, z => by
    rw [List.all_cons, Bool.and_eq_true, decide_eq_true_eq] at h
    exact ⟨zp_ok_ki h.1 z.1, zp_oks_ki h.2 z.2⟩
  | [], _ :: _, _, z => z.elim
  | _ :: _, [], _, z => z.elim
theorem zp_nt : zt_types.all (fun T => zh_nt T 13 && zh_nt T 92) = true := by decide +kernel
theorem zp_T13 : ∃ T, zt_types[13]? = some T ∧ T.1 = 0 ∧ T.2.2.2[20]? = some (0, 0, 0, 0) ∧ zt_types[92]? = some (T.1, T.2.1, T.2.2.1, T.2.2.2.set 20 (0, 0, 0, 1)) := ⟨zt_types.getD 13 (0, 0, 0, []), rfl, rfl, rfl, rfl⟩
theorem zp_sw_wt {w : zk_W} {U : State} (hw : w.1 = zt_types) {P : Nat → Option Nat} {F : Nat → va_E} {H : Heap} (h : zk_wt w U P F H) {a t t' : Nat} (ht : (t = 13 ∧ t' = 92) ∨ (t = 92 ∧ t' = 13)) (hp : P a = some t) (h0 : t' = 13 → zp_n F a 20 = 0) : zk_wt w U (zk_up P a (some t')) F H := by
  obtain ⟨T, e1, e2, e3, e4⟩ := zp_T13
  rw [← hw] at e1 e4
  have hn13 : ∀ T ∈ w.1, zh_nt T 13 = true := fun T hT => by
    rw [hw] at hT
    have := List.all_eq_true.mp zp_nt T hT
    rw [Bool.and_eq_true] at this
    exact this.1
  have hn92 : ∀ T ∈ w.1, zh_nt T 92 = true := fun T hT => by
    rw [hw] at hT
    have := List.all_eq_true.mp zp_nt T hT
    rw [Bool.and_eq_true] at this
    exact this.2
  have nr : ∀ t, t = 13 ∨ t = 92 → zk_rel.all (fun r => r.1 != t) = true := fun t h => by rcases h with rfl | rfl <;> decide
  rcases ht with ⟨rfl, rfl⟩ | ⟨rfl, rfl⟩
  · obtain ⟨fs, o1, o2, o3, o4⟩ := zk_obj h hp e1 e2
    refine zh_wt_up h hp hn13 e1 e4 ?_ ?_
    · unfold zk_el
      dsimp only
      rw [e2]
      refine ⟨fs, o1, ?_⟩
      have o5 := zh_fvs_up (t1 := 92) hp (fun f hf h2 => zh_nt_mem (hn13 T (List.mem_of_getElem? e1)) hf h2) o2
      refine zk_all2_setL o5 (fun v hv => ?_)
      obtain ⟨g, g1, n, n1, n2⟩ := zk_all2_getR o5 hv
      rw [e3] at g1
      cases g1
      exact ⟨n, ⟨n1.1, by have h1 : n ≤ 0 := n1.2.1; show n ≤ 1; omega, n1.2.2⟩, n2⟩
    · rw [o1]
      intro r hr hrt
      have := List.all_eq_true.mp (nr 92 (Or.inr rfl)) r hr
      rw [bne_iff_ne] at this
      exact absurd hrt this
  · obtain ⟨fs, o1, o2, o3, o4⟩ := zk_obj h hp e4 e2
    refine zh_wt_up h hp hn92 e4 e1 ?_ ?_
    · unfold zk_el
      rw [e2]
      refine ⟨fs, o1, ?_⟩
      have o5 := zh_fvs_up (t1 := 13) hp (fun f hf h2 => zh_nt_mem (hn92 _ (List.mem_of_getElem? e4)) hf h2) o2
      dsimp only at o5
      have o6 := zk_all2_setL (a' := (0, 0, 0, 0)) (i := 20) o5 (fun v hv => by
        obtain ⟨g, g1, n, n1, n2⟩ := zk_all2_getR o5 hv
        have hl : 20 < T.2.2.2.length := (List.getElem?_eq_some_iff.mp e3).1
        rw [List.getElem?_set_self hl] at g1
        cases g1
        have hz := h0 rfl
        unfold zp_n at hz
        rw [o1] at hz
        have hz : (match fs[20]? with | some v => zp_num v | none => 0) = 0 := hz
        rw [hv, n2] at hz
        have hz : (Int32.ofInt n).toInt = 0 := hz
        rw [zk_i32 n1.2.2] at hz
        subst hz
        exact ⟨0, ⟨Int.le_refl _, Int.le_refl _, n1.2.2⟩, n2⟩)
      rw [List.set_set] at o6
      have e5 : T.2.2.2.set 20 (0, 0, 0, 0) = T.2.2.2 := by
        apply List.ext_getElem?
        intro i
        by_cases hi : i = 20
        · subst hi
          rw [List.getElem?_set_self (List.getElem?_eq_some_iff.mp e3).1, e3]
        · rw [List.getElem?_set_ne (fun z => hi z.symm)]
      rw [e5] at o6
      exact o6
    · rw [o1]
      intro r hr hrt
      have := List.all_eq_true.mp (nr 13 (Or.inl rfl)) r hr
      rw [bne_iff_ne] at this
      exact absurd hrt this
noncomputable def zp_swP (t1 : Nat) (fs : List zk_F) : List zk_F := match fs with
  | f :: r => (f.1, t1, f.2.2.1, f.2.2.2) :: r
  | [] => []
noncomputable def zp_swE (t0 t1 : Nat) (es : List (Nat × Nat × Nat)) : List (Nat × Nat × Nat) := es ++ (es.filter (fun e => e.1 == t0)).map (fun e => (t1, e.2.1, e.2.2))
noncomputable def zp_swK (K : zk_K) (t0 t1 : Nat) : zk_K := (K.1, K.2.1, K.2.2.1, K.2.2.2.1, zk_Kk K, zk_Kc K, zp_swP t1 (zk_Kp K), zk_Ka K, zp_swE t0 t1 (zk_Ke K), zk_Kr K)
theorem zp_swAvs {t1 : Nat} {fs : List zk_F} {ps : List Int} : zk_avs (zp_swP t1 fs) ps = zk_avs fs ps := by
  match fs, ps with
  | [], _ => rfl
  | _ :: _, [] => rfl
  | _ :: _, _ :: _ => rfl
noncomputable def zp_swB (K : zk_K) (t0 : Nat) : Bool := zk_Kk K == 1 && ((match zk_Kp K with
  | f :: r => f == (2, t0, 0, 0) && r.all (fun f => decide (f.1 < 2))
  | [] => false) && ((zk_Ka K).all (fun al => match al.1 with
    | some f => decide (f.1 < 2)
    | none => true) && (zk_Ke K).all (fun e => e.2.2 == 0)))
theorem zp_swap {l : Launch} {w : zk_W} (hW : zh_W w) {K : zk_K} {t0 t1 : Nat} (h01 : (t0 = 13 ∧ t1 = 92) ∨ (t0 = 92 ∧ t1 = 13)) {φ φ' : (Nat → Option Nat) → (Nat → Nat → Int) → List Int → Prop} {ψ ψ' : (Nat → Option Nat) → (Nat → Nat → Int) → List Int → (Nat → Option Nat) → (Nat → Nat → Int) → Int → Prop} (hM : zk_metX l w zt_dv zt_TB K (zp_A φ) (zp_B ψ) ∧ zk_cok w zt_TB K) (hb : zp_swB K t0 = true)
    (hφ : ∀ (P : Nat → Option Nat) (G : Nat → Nat → Int) (ps : List Int) (a : Nat), ps[0]? = some (a : Int) → P a = some t1 → φ' P G ps → (t0 = 13 → G a 20 = 0) ∧ φ (zk_up P a (some t0)) G ps)
    (hψ : ∀ (P : Nat → Option Nat) (G : Nat → Nat → Int) (ps : List Int) (P' : Nat → Option Nat) (G' : Nat → Nat → Int) (rn : Int) (a : Nat), ps[0]? = some (a : Int) → P a = some t1 → φ' P G ps → P' a = some t0 → (t1 = 13 → G a 20 = 0) → zp_fr (zk_Ke K) ps (zk_up P a (some t0)) G G' → ψ (zk_up P a (some t0)) G ps P' G' rn → (t1 = 13 → G' a 20 = 0) ∧ ψ' P G ps (zk_up P' a (some t1)) G' rn) : zk_metX l w zt_dv zt_TB (zp_swK K t0 t1) (zp_A φ') (zp_B ψ') ∧ zk_cok w zt_TB (zp_swK K t0 t1) := by
  obtain ⟨hM, hC⟩ := hM
  unfold zp_swB at hb
  simp only [Bool.and_eq_true, beq_iff_eq] at hb
  obtain ⟨b1, b2, b3, b4⟩ := hb
  have hw := hW.1
  have h10 : (t1 = 13 ∧ t0 = 92) ∨ (t1 = 92 ∧ t0 = 13) := by omega
  cases hKp : zk_Kp K with
  | nil => rw [hKp] at b2; cases b2
  | cons f0 r =>
    rw [hKp] at b2
    simp only [Bool.and_eq_true, beq_iff_eq] at b2
    obtain ⟨rfl, b2⟩ := b2
    have hKp1 : zk_Kp (zp_swK K t0 t1) = (2, t1, 0, 0) :: r := by show zp_swP t1 (zk_Kp K) = _; rw [hKp]; rfl
    refine ⟨?_, ?_⟩
    · intro P0 F0 ps sz hps hA
      rw [hKp1] at hps
      obtain ⟨n, ps', e0, k0, k1⟩ := zk_all2_cons hps
      obtain ⟨a, rfl, hp⟩ := zp_this k0
      have h0 : ps[0]? = some (a : Int) := by rw [e0]; rfl
      obtain ⟨hf1, hf2⟩ := hφ P0 (zp_n F0) ps a h0 hp hA
      have hpu : zk_up P0 a (some t0) a = some t0 := zk_up_self
      have hps0 : zk_all2 (zk_ok (zk_up P0 a (some t0))) (zk_Kp K) ps := by
        rw [hKp, e0]
        exact ⟨zp_o2 hpu, zp_oks_ki b2 k1⟩
      have M := hM (zk_up P0 a (some t0)) F0 ps sz hps0 hf2
      have hav : zk_avs (zk_Kp (zp_swK K t0 t1)) ps = zk_avs (zk_Kp K) ps := zp_swAvs
      rw [hav]
      refine MetFree.mono M (fun av U hv => ?_) (fun _ _ _ _ _ h => h) (fun av U o t hv hq => ?_)
      · obtain ⟨q1, q2, q3, q4, q5, q6, q7, q8⟩ := hv
        refine ⟨q1, q2, q3, zp_sw_wt hw q4 h10 hp (fun e => hf1 e), q5, fun h => absurd h (by omega), q7, fun t b hb => ?_⟩
        have hb1 := q8 t b hb
        have ht := hW.2.2.2.2.2.2.1 t b hb
        rw [zk_up_ne]
        · exact hb1
        · intro e
          subst e
          rw [hp] at hb1
          cases hb1
          omega
      · obtain ⟨q1, q2, q3, q4, q5, q6, q7, q8⟩ := hv
        refine ⟨?_, hq.2⟩
        obtain ⟨al, al1, rn, P', F', f1, f2, f3, f4, f5, f6, f7, f8, f9, g1, g2, hBB⟩ := hq.1
        have hpa : P' a = some t0 := f6 a t0 hpu
        have hG0 : t1 = 13 → zp_n F0 a 20 = 0 := fun e => by
          subst e
          have hr := (zp_rdf (xs := []) (zp_wt.of q4) hw hp (show zp_fd 13 20 = some (12, 0, 0, 0, 0) from rfl) (show (0 : Nat) ≤ 2 by decide)).1
          have h1 := hr.1
          have h2 := hr.2.1
          dsimp only at h1 h2
          omega
        obtain ⟨y1, y2⟩ := hψ P0 (zp_n F0) ps P' (zp_n F') rn a h0 hp hA hpa hG0 (zp_ef_fr f7) hBB
        refine ⟨al, al1, rn, zk_up P' a (some t1), F', f1, fun f hf => ?_, f3, zp_sw_wt hw f4 h01 hpa y1, f5, fun b y hb => ?_, fun b t hb => ?_, f8, f9, fun q z1 z2 z3 => ?_, fun h => absurd h (by show ¬ zk_Kk K = 2; omega), y2⟩
        · have h1 := List.all_eq_true.mp b3 al al1
          rw [hf] at h1
          exact ⟨zp_ok_ki (of_decide_eq_true h1) (f2 f hf).1, (f2 f hf).2⟩
        · by_cases e : b = a
          · subst e
            rw [hp] at hb
            cases hb
            exact zk_up_self
          · rw [zk_up_ne e]
            exact f6 b y (by rw [zk_up_ne e]; exact hb)
        · by_cases e : b = a
          · subst e
            rw [hp] at hb
            cases hb
            refine (f7 b t0 hpu).mono (fun k hk => ?_)
            obtain ⟨q, q1, q2, q3, -⟩ := hk
            have q4 := List.all_eq_true.mp b4 q q1
            rw [beq_iff_eq] at q4
            exact ⟨(t1, q.2.1, q.2.2), List.mem_append_right _ (List.mem_map.mpr ⟨q, List.mem_filter.mpr ⟨q1, by rw [beq_iff_eq]; exact q2⟩, rfl⟩), rfl, q3, Or.inl q4⟩
          · refine (f7 b t (by rw [zk_up_ne e]; exact hb)).mono (fun k hk => ?_)
            obtain ⟨q, q1, q2, q3, q4⟩ := hk
            exact ⟨q, List.mem_append_left _ q1, q2, q3, q4⟩
        · have hqa : q ≠ a := by
            intro e
            subst e
            rw [hp] at z2
            cases z2
          obtain ⟨x1, x2⟩ := g1 q z1 (by rw [zk_up_ne hqa]; exact z2) (fun h => absurd h.1 (by omega))
          exact ⟨by rw [zk_up_ne hqa]; exact x1, x2⟩
    · obtain ⟨h1, h2, h3, h4, h5, h6, h7⟩ := hC
      refine ⟨h1, h2, h3, ?_, h5, h6, h7⟩
      show (parseMethodDescriptor K.1.desc).map (fun d => d.parameters.length) = some ((zk_Kp (zp_swK K t0 t1)).length - (if zk_Kk K = 0 then 0 else 1))
      rw [h4, hKp1, hKp]
      rfl
