/-! part 72: a bridge to what was done by hand; sumOf's reckoning -/
theorem zp_ofA {l : Launch} {w : zk_W} {K : zk_K} {A : zk_Q} {B : zk_B} {φ : (Nat → Option Nat) → (Nat → Nat → Int) → List Int → Prop} (h : zk_metX l w zt_dv zt_TB K A B ∧ zk_cok w zt_TB K) (hA : ∀ (P : Nat → Option Nat) (F : Nat → va_E) (ps : List Int) (U : State) (H : Heap), zk_wt w U P F H → zk_all2 (zk_ok P) (zk_Kp K) ps → φ P (zp_n F) ps → A P F ps) : zk_metX l w zt_dv zt_TB K (zp_A φ) B ∧ zk_cok w zt_TB K := by
  refine ⟨fun P0 F0 ps sz hps hφ => ?_, h.2⟩
  by_cases hq : A P0 F0 ps
  · exact h.1 P0 F0 ps sz hps hq
  · intro p e h1 h2 h3 s m args below h4 h5 h6 h7
    obtain ⟨q1, q2, q3, q4, q5⟩ := h6
    exact absurd (hA P0 F0 ps s s.heap q4 hps hφ) hq