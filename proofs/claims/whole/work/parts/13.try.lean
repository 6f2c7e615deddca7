theorem nI_lit (n : Nat) : (OfNat.ofNat n : Int32) = nI n := rfl
def mb (b : Bool) : Int32 := if b then 1 else 0
set_option maxRecDepth 100000 in
set_option maxHeartbeats 4000000 in
theorem c_X5_has (d : Nat) (h : m_H) (p s : Nat) (i : Int32) (hp : isPlan h.2.2 p) (hs : s < 8) : MC yX5_has cX5_has 3 (some .boolean) (d + 1) 0 0 [.ref p, .int (nI s), .int i] h (m_r (.int (if 0 ≤ i ∧ i < h.1 (p + 1) s then 1 else 0)) h) := by
  refine mc_of (by decide +kernel) (by decide) ?_
  show MW _ 0 (0, 0) [(0, .ref p), (1, .int (nI s)), (2, .int i)] [] h _
  refine mw_iload_n 2 dX5_has_0 rfl ?_
  refine mw_if_lt (tgt := 18) dX5_has_1 (by decide) (fun c1 => ?_) (fun c1 => ?_)
  · refine mw_iconst (v := 0) dX5_has_18 rfl ?_
    refine mw_ireturn dX5_has_19 rfl rfl ⟨rfl, rfl⟩ ?_
    first | exact ⟨rfl, rfl⟩ | exact ⟨by simp_all, rfl⟩
  · refine mw_iload_n 2 dX5_has_4 rfl ?_
    refine mw_aload_n 0 dX5_has_5 rfl ?_
    refine mw_getr 5 0 dX5_has_6 fl_X5_9 (by decide) (by decide) rfl (pl_o hp) (pl_r0 hp) ?_
    refine mw_iload_n 1 dX5_has_9 rfl ?_
    refine mw_iaN s dX5_has_10 (pl_a0 hp) (by omega) (by decide) rfl ?_
    refine mw_icmp_ge (tgt := 18) dX5_has_11 (by decide) (fun c11 => ?_) (fun c11 => ?_)
    · refine mw_iconst (v := 0) dX5_has_18 rfl ?_
      refine mw_ireturn dX5_has_19 rfl rfl ⟨rfl, rfl⟩ ?_
      first | exact ⟨rfl, rfl⟩ | exact ⟨by simp_all, rfl⟩
    · refine mw_iconst (v := 1) dX5_has_14 rfl ?_
      refine mw_goto (tgt := 19) dX5_has_15 (by decide) ?_
      refine mw_ireturn dX5_has_19 rfl rfl ⟨rfl, rfl⟩ ?_
      first | exact ⟨rfl, rfl⟩ | exact ⟨by simp_all, rfl⟩
