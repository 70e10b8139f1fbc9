/-! part 69: law -/
theorem zl_f3 : zk_fj zl_T 3 = (0, 4, 0, 6) := by decide +kernel
/-- the law that was read, as it comes into the row -/
theorem zl_new {a n ncl : Nat} {G : Nat → Nat → Int} {f : Nat → Int} (hn : n < 6) (hok : ∀ c, c < ncl → zl_ok a G c) (hnc : G a 23 ≤ 400) (h1 : f (180 + 900 * n + 1) = ncl) (hcl : ∀ j, j < 8 * ncl → f (180 + 900 * n + 2 + j) = zv G a 22 j) (hop : ∀ q : Nat, (q : Int) < G a 23 → f (180 + 900 * n + 98 + 2 * q) = zv G a 24 q ∧ f (180 + 900 * n + 98 + 2 * q + 1) = zv G a 25 q) : zk_law f (180 + 900 * n) := by
  intro c hc hlt
  rw [h1] at hlt
  have hlt : c < ncl := by omega
  obtain ⟨a1, a2, a3⟩ := hok c hlt
  have e : ∀ j, j < 8 → f (180 + 900 * n + 2 + 8 * c + j) = zv G a 22 (8 * c + j) := fun j hj => by
    rw [← hcl (8 * c + j) (by omega)]
    congr 1
    omega
  have e0 := e 0 (by decide)
  rw [Nat.add_zero, Nat.add_zero] at e0
  have cr : ∀ {x y : Int}, y ≤ G a 23 → zk_cr (zv G a 24) (zv G a 25) x.toNat y.toNat → zk_cr (fun k => f (180 + 900 * n + 98 + 2 * k)) (fun k => f (180 + 900 * n + 98 + 2 * k + 1)) x.toNat y.toNat := fun {x y} hy z => zh_crc z (fun q q1 q2 => by
    have h3 := hop q (by omega)
    exact ⟨h3.1.symm, h3.2.symm⟩)
  refine ⟨fun g1 => ?_, fun g1 => ?_⟩
  · rw [e 5 (by decide), e 6 (by decide)] at g1 ⊢
    exact cr (a1 6 (by decide) (by decide)).2 (a2 g1)
  · rw [e0] at g1
    rw [e 3 (by decide), e 4 (by decide)]
    exact cr (a1 4 (by decide) (by decide)).2 (a3 g1)
noncomputable def zK_lw : zk_K := (zt_mn 209, prog_14_method_62_code, 3, (Option.some Jvm.ClassFile.FieldType.int), 1, 12, [(2, 92, 0, 0)], [(some (0, 0, (-6), 5), [])], [(92, 0, 0), (92, 13, 0), (92, 20, 0), (92, 14, 0), (92, 15, 0), (92, 16, 0), (92, 17, 0), (92, 18, 0), (92, 19, 0), (92, 30, 0), (92, 29, 0), (92, 23, 0), (68, 1001, 0), (69, 1001, 0), (70, 1001, 0), (71, 1001, 0), (92, 26, 0), (92, 21, 0), (67, 1001, 0), (92, 1, 0), (58, 1001, 0), (59, 3771, 0), (59, 1003, 0)], (8, 400, 0, 0))