/-! ===== a state, named anew ===== -/
theorem xw_at {d mi : Nat} {f f' : xm_F} {h h' : xm_H} {Q : Option Value → xm_H → Prop} (hf : f = f') (hh : h = h') (k : xm_W d mi f' h' Q) : xm_W d mi f h Q := by
  subst hf
  subst hh
  exact k
