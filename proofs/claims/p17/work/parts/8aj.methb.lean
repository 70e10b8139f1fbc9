/-! part 8aj: a contract by the checker that tells what stands there at its returns -/
theorem zh_methB {l : Launch} {w : zk_W} (hW : zh_W w) {lk : List zk_L} {KS : List zk_K} {km : List Nat} {lc : List (Nat × Nat × Nat)} {K : zk_K} {pl fuel : Nat} {CL0 : List zk_Ci} {ns : List (Nat × Nat × List (Nat × Int × Nat))} {AL RA : List zk_An} {B : zk_B} (hk2 : zk_Kk K ≠ 2) (hret : K.2.2.2.1 = some .int) (he0 : zk_e0b (zt_types, lk, zt_dv, KS, km, lc, K) = true) (hb : (zt_cokb pl K && (decide (KS.map (fun K => K.1) = km.map zt_mn) && (lk.all (zt_lkin K.1.cls) && lc.all (zt_lcin K.1.cls)))) = true) (hCL : ∀ q ∈ CL0, decode K.2.1 q.1 = .ok (q.2.1, q.2.2.1)) (hKS : ∀ K' ∈ KS, zh_K l w K')
    (h0 : (zk_go (zh_Es (zt_types, lk, zt_dv, KS, km, lc, K) (zk_Kp K) (zk_Ke K)) (CL0.map (zq_note ns)) (RA ++ AL) none fuel 0 (zk_k0 (zt_types, lk, zt_dv, KS, km, lc, K)) [] 0 0 && AL.all (fun A => A.2.2.2.2.2.2.all (fun t => decide (t.2 < A.2.1.1.length)) && (match zk_lbd A.2.1.1 A.2.2.2.2.2.2 with
    | some b => decide (0 ≤ A.2.2.2.2.2.1 + b)
    | none => false) && zk_go (zh_Es (zt_types, lk, zt_dv, KS, km, lc, K) (zk_Kp K) (zk_Ke K)) (CL0.map (zq_note ns)) (RA ++ AL) (some A.2.2.2.2.2) fuel A.1 A.2.1 A.2.2.1 A.2.2.2.1 A.2.2.2.2.1)) = true)
    (hRA : ∀ A ∈ RA, ∃ (r x : Nat) (lo hi : Int), A.2.2.1 = [(r, 0)] ∧ A.2.1.1[r]? = some (0, x, lo, hi) ∧ (some (0, x, lo, hi), []) ∈ zk_Ka K ∧ decode K.2.1 A.1 = .ok (.ireturn, 1) ∧ A.2.2.2.1 ≤ (zk_Kr K).2.2.1 ∧ A.2.2.2.2.1 ≤ (zk_Kr K).2.2.2 ∧ ∀ (P0 : Nat → Option Nat) (G0 : Nat → va_E) (ps N : List Int) (P : Nat → Option Nat) (F : Nat → va_E) (n : Int), zk_all2 (zk_ok P) A.2.1.1 N → zk_fa A.2.1.1 N P F A.2.1.2.2.1 → zk_pa N ps A.2.1.2.2.2.2.2.1 → N[r]? = some n → B P0 G0 ps P F n) : zk_metX l w zt_dv zt_TB K zk_tA B ∧ zk_cok w zt_TB K := by
  refine zh_methH hW hk2 he0 hb hKS (fun p e R s m args below meth c Q P0 G0 ps X hx hb hA hps hE hQ H locs ls hG => ?_)
  refine zh_seg (E := (zt_types, lk, zt_dv, KS, km, lc, K)) hx hb hE (zk_all2_len hps).symm (zq_note_ok hCL ns) h0 (fun _ _ h => h) hG trivial (fun A hA => ?_)
  rcases List.mem_append.mp hA with hA | hA
  · refine Or.inr (fun N' P' F' H' locs' ls' sv' hG' hS' => ?_)
    obtain ⟨r, x, lo, hi, e1, e2, e3, e4, e5, e6, hB⟩ := hRA A hA
    obtain ⟨⟨c1, c2, c3⟩, c4, c5, c6, c7, c8, c9, c10, c11, c12, c13, c14, c15, c16, c17, c18, c19, y1, y2, y3⟩ := hE [] P0 G0 (zk_Ke K) (zk_Ka K) ps (zk_Kp K) (zk_all2_len hps).symm (fun _ _ h => h)
    rw [e1] at hS'
    cases sv' with
    | nil => exact hS'.elim
    | cons v rest =>
      cases rest with
      | cons v2 r2 => exact hS'.2.elim
      | nil =>
        obtain ⟨hv, -⟩ := hS'
        obtain ⟨n, hn, hok⟩ := zk_all2_get hG'.1 e2
        obtain ⟨hv, -⟩ := zh_vi hv e2 hn
        rw [Int.add_zero] at hv
        subst hv
        have hBn := hB P0 G0 ps N' P' F' n hG'.1 hG'.2.2.1 hG'.2.2.2.2.2.2.2.2.2.1 hn
        have fin : ∀ t : State, t.heap = H' → s.WarmedH t.vm → zk_postX w K B P0 G0 ps s t (.returned (some (.int (Int32.ofInt n)))) := fun t ht hWm => zk_fin (u := (P0, G0, ps, zk_Ke K, N', K.2.2.1, X)) (K := K) (al := (some (0, x, lo, hi), [])) (rn := n) (X0 := fun _ => True) c8 c7 rfl c19 hG' (by unfold zk_rct; exact if_neg hk2) e3 (fun f h => by cases h; exact ⟨hok, Nat.zero_le _⟩) (fun q h => absurd h List.not_mem_nil) (Or.inl ⟨hk2, hBn⟩) t ht hWm
        have hr := c18.2.1
        have hr : meth.sig.returnType = some .int := hr.trans hret
        refine W.widen e5 e6 ?_
        rw [hQ]
        exact W.iret hx hb hr (fun t ht hWm => fin t ht hWm) hG'.2.2.2.2.2.2.2.2.1.2.2 e4 c18.1
  · exact Or.inl hA
