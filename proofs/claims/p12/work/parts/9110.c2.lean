/-! part c2: the reference: emit, push, settle, next, exactly -/
def zφD_em (bad : Int) (B : Nat → Int) (ln tk nl od : Nat) (pi : List (Int × Int)) (cd : yC) : (Nat → Option Nat) → (Nat → Nat → Int) → List Int → Prop := fun _ G ps => zD (zp_0 ps) G bad B ln tk nl od pi cd ∧ cd.2.2 < 400
def zψD_em (bad : Int) (B : Nat → Int) (ln tk nl od : Nat) (pi : List (Int × Int)) (cd : yC) : (Nat → Option Nat) → (Nat → Nat → Int) → List Int → (Nat → Option Nat) → (Nat → Nat → Int) → Int → Prop := fun P G ps P' G' rn => P' = P ∧ zD (zp_0 ps) G' bad B ln tk nl od pi (yu cd.1 cd.2.2 (ps.getD 1 0), yu cd.2.1 cd.2.2 (ps.getD 2 0), cd.2.2 + 1)
theorem zY_em {l : Launch} {w : zk_W} (hW : zh_W w) (bad : Int) (B : Nat → Int) (ln tk nl od : Nat) (pi : List (Int × Int)) (cd : yC) : zk_metX l w zt_dv zt_TB zK_em (zp_A (zφD_em bad B ln tk nl od pi cd)) (zp_B (zψD_em bad B ln tk nl od pi cd)) ∧ zk_cok w zt_TB zK_em := by
  sorry
def zφD_pu (bad : Int) (B : Nat → Int) (ln tk nl od : Nat) (pi : List (Int × Int)) (cd : yC) : (Nat → Option Nat) → (Nat → Nat → Int) → List Int → Prop := fun _ G ps => zD (zp_0 ps) G bad B ln tk nl od pi cd ∧ pi.length < 400
def zψD_pu (bad : Int) (B : Nat → Int) (ln tk nl od : Nat) (pi : List (Int × Int)) (cd : yC) : (Nat → Option Nat) → (Nat → Nat → Int) → List Int → (Nat → Option Nat) → (Nat → Nat → Int) → Int → Prop := fun P G ps P' G' rn => P' = P ∧ zD (zp_0 ps) G' bad B ln tk nl od ((ps.getD 1 0, ps.getD 2 0) :: pi) cd
theorem zY_pu {l : Launch} {w : zk_W} (hW : zh_W w) (bad : Int) (B : Nat → Int) (ln tk nl od : Nat) (pi : List (Int × Int)) (cd : yC) : zk_metX l w zt_dv zt_TB zK_pu (zp_A (zφD_pu bad B ln tk nl od pi cd)) (zp_B (zψD_pu bad B ln tk nl od pi cd)) ∧ zk_cok w zt_TB zK_pu := by
  sorry
def zφD_se (bad : Int) (B : Nat → Int) (ln tk nl od : Nat) (pi : List (Int × Int)) (cd : yC) : (Nat → Option Nat) → (Nat → Nat → Int) → List Int → Prop := fun _ G ps => zD (zp_0 ps) G bad B ln tk nl od pi cd ∧ zDj 400 pi cd
def zψD_se (bad : Int) (B : Nat → Int) (ln tk nl od : Nat) (pi : List (Int × Int)) (cd : yC) : (Nat → Option Nat) → (Nat → Nat → Int) → List Int → (Nat → Option Nat) → (Nat → Nat → Int) → Int → Prop := fun P G ps P' G' rn => P' = P ∧ zD (zp_0 ps) G' bad B ln tk nl od (ym_se (ps.getD 1 0) pi cd).1 (ym_se (ps.getD 1 0) pi cd).2
theorem zY_se {l : Launch} {w : zk_W} (hW : zh_W w) (bad : Int) (B : Nat → Int) (ln tk nl od : Nat) (pi : List (Int × Int)) (cd : yC) : zk_metX l w zt_dv zt_TB zK_se (zp_A (zφD_se bad B ln tk nl od pi cd)) (zp_B (zψD_se bad B ln tk nl od pi cd)) ∧ zk_cok w zt_TB zK_se := by
  sorry
def zφD_nx (B : Nat → Int) (ln q : Nat) : (Nat → Option Nat) → (Nat → Nat → Int) → List Int → Prop := fun _ G ps => zDy (zp_0 ps) G B ln q
def zψD_nx (B : Nat → Int) (ln q : Nat) : (Nat → Option Nat) → (Nat → Nat → Int) → List Int → (Nat → Option Nat) → (Nat → Nat → Int) → Int → Prop := fun P G ps P' G' rn => P' = P ∧ zDx (zp_0 ps) G G' B ln q
theorem zY_nx {l : Launch} {w : zk_W} (hW : zh_W w) (B : Nat → Int) (ln q : Nat) : zk_metX l w zt_dv zt_TB zK_nx (zp_A (zφD_nx B ln q)) (zp_B (zψD_nx B ln q)) ∧ zk_cok w zt_TB zK_nx := by
  sorry