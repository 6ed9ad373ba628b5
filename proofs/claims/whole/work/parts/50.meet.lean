/-! THE RULES HOLD of a meet of predicates -/
theorem ra_iconst {ι : Type} {own : String} {b : ByteArray} {K : ι → sm_K} (R : ∀ i, sm_R own b (K i)) : ru_iconst own b (fun pc L st h => ∀ i, K i pc L st h) := by
  intro pc L st h n v hd hv k i0
  exact rl_iconst (R i0) hd hv (k i0)
theorem ra_bipush {ι : Type} {own : String} {b : ByteArray} {K : ι → sm_K} (R : ∀ i, sm_R own b (K i)) : ru_bipush own b (fun pc L st h => ∀ i, K i pc L st h) := by
  intro pc L st h n v hd hv k i0
  exact rl_bipush (R i0) hd hv (k i0)
theorem ra_sipush {ι : Type} {own : String} {b : ByteArray} {K : ι → sm_K} (R : ∀ i, sm_R own b (K i)) : ru_sipush own b (fun pc L st h => ∀ i, K i pc L st h) := by
  intro pc L st h n v hd hv k i0
  exact rl_sipush (R i0) hd hv (k i0)
theorem ra_lconst {ι : Type} {own : String} {b : ByteArray} {K : ι → sm_K} (R : ∀ i, sm_R own b (K i)) : ru_lconst own b (fun pc L st h => ∀ i, K i pc L st h) := by
  intro pc L st h n v hd hv k i0
  exact rl_lconst (R i0) hd hv (k i0)
theorem ra_null {ι : Type} {own : String} {b : ByteArray} {K : ι → sm_K} (R : ∀ i, sm_R own b (K i)) : ru_null own b (fun pc L st h => ∀ i, K i pc L st h) := by
  intro pc L st h  hd k i0
  exact rl_null (R i0) hd (k i0)
theorem ra_ldc {ι : Type} {own : String} {b : ByteArray} {K : ι → sm_K} (R : ∀ i, sm_R own b (K i)) : ru_ldc own b (fun pc L st h => ∀ i, K i pc L st h) := by
  intro pc L st h i v hd hc k i0
  exact rl_ldc (R i0) hd hc (k i0)
theorem ra_ldcw {ι : Type} {own : String} {b : ByteArray} {K : ι → sm_K} (R : ∀ i, sm_R own b (K i)) : ru_ldcw own b (fun pc L st h => ∀ i, K i pc L st h) := by
  intro pc L st h i v hd hc k i0
  exact rl_ldcw (R i0) hd hc (k i0)
theorem ra_ldc2 {ι : Type} {own : String} {b : ByteArray} {K : ι → sm_K} (R : ∀ i, sm_R own b (K i)) : ru_ldc2 own b (fun pc L st h => ∀ i, K i pc L st h) := by
  intro pc L st h i v hd hc k i0
  exact rl_ldc2 (R i0) hd hc (k i0)
theorem ra_iload {ι : Type} {own : String} {b : ByteArray} {K : ι → sm_K} (R : ∀ i, sm_R own b (K i)) : ru_iload own b (fun pc L st h => ∀ i, K i pc L st h) := by
  intro pc L st h i x hd hL k i0
  exact rl_iload (R i0) hd hL (k i0)
theorem ra_iload_n {ι : Type} {own : String} {b : ByteArray} {K : ι → sm_K} (R : ∀ i, sm_R own b (K i)) : ru_iload_n own b (fun pc L st h => ∀ i, K i pc L st h) := by
  intro pc L st h i x hd hL k i0
  exact rl_iload_n (R i0) hd hL (k i0)
theorem ra_lload {ι : Type} {own : String} {b : ByteArray} {K : ι → sm_K} (R : ∀ i, sm_R own b (K i)) : ru_lload own b (fun pc L st h => ∀ i, K i pc L st h) := by
  intro pc L st h i x hd hL k i0
  exact rl_lload (R i0) hd hL (k i0)
theorem ra_lload_n {ι : Type} {own : String} {b : ByteArray} {K : ι → sm_K} (R : ∀ i, sm_R own b (K i)) : ru_lload_n own b (fun pc L st h => ∀ i, K i pc L st h) := by
  intro pc L st h i x hd hL k i0
  exact rl_lload_n (R i0) hd hL (k i0)
theorem ra_aload {ι : Type} {own : String} {b : ByteArray} {K : ι → sm_K} (R : ∀ i, sm_R own b (K i)) : ru_aload own b (fun pc L st h => ∀ i, K i pc L st h) := by
  intro pc L st h i x hd hL k i0
  exact rl_aload (R i0) hd hL (k i0)
theorem ra_aload_n {ι : Type} {own : String} {b : ByteArray} {K : ι → sm_K} (R : ∀ i, sm_R own b (K i)) : ru_aload_n own b (fun pc L st h => ∀ i, K i pc L st h) := by
  intro pc L st h i x hd hL k i0
  exact rl_aload_n (R i0) hd hL (k i0)
theorem ra_aloadN {ι : Type} {own : String} {b : ByteArray} {K : ι → sm_K} (R : ∀ i, sm_R own b (K i)) : ru_aloadN own b (fun pc L st h => ∀ i, K i pc L st h) := by
  intro pc L st h i hd hL k i0
  exact rl_aloadN (R i0) hd hL (k i0)
theorem ra_aload_nN {ι : Type} {own : String} {b : ByteArray} {K : ι → sm_K} (R : ∀ i, sm_R own b (K i)) : ru_aload_nN own b (fun pc L st h => ∀ i, K i pc L st h) := by
  intro pc L st h i hd hL k i0
  exact rl_aload_nN (R i0) hd hL (k i0)
theorem ra_istore {ι : Type} {own : String} {b : ByteArray} {K : ι → sm_K} (R : ∀ i, sm_R own b (K i)) : ru_istore own b (fun pc L st h => ∀ i, K i pc L st h) := by
  intro pc L st h i x hd hi ho k i0
  exact rl_istore (R i0) hd hi ho (k i0)
theorem ra_istore_n {ι : Type} {own : String} {b : ByteArray} {K : ι → sm_K} (R : ∀ i, sm_R own b (K i)) : ru_istore_n own b (fun pc L st h => ∀ i, K i pc L st h) := by
  intro pc L st h i x hd hi ho k i0
  exact rl_istore_n (R i0) hd hi ho (k i0)
theorem ra_astore {ι : Type} {own : String} {b : ByteArray} {K : ι → sm_K} (R : ∀ i, sm_R own b (K i)) : ru_astore own b (fun pc L st h => ∀ i, K i pc L st h) := by
  intro pc L st h i x hd hi ho k i0
  exact rl_astore (R i0) hd hi ho (k i0)
theorem ra_astore_n {ι : Type} {own : String} {b : ByteArray} {K : ι → sm_K} (R : ∀ i, sm_R own b (K i)) : ru_astore_n own b (fun pc L st h => ∀ i, K i pc L st h) := by
  intro pc L st h i x hd hi ho k i0
  exact rl_astore_n (R i0) hd hi ho (k i0)
theorem ra_astoreN {ι : Type} {own : String} {b : ByteArray} {K : ι → sm_K} (R : ∀ i, sm_R own b (K i)) : ru_astoreN own b (fun pc L st h => ∀ i, K i pc L st h) := by
  intro pc L st h i hd hi ho k i0
  exact rl_astoreN (R i0) hd hi ho (k i0)
theorem ra_astore_nN {ι : Type} {own : String} {b : ByteArray} {K : ι → sm_K} (R : ∀ i, sm_R own b (K i)) : ru_astore_nN own b (fun pc L st h => ∀ i, K i pc L st h) := by
  intro pc L st h i hd hi ho k i0
  exact rl_astore_nN (R i0) hd hi ho (k i0)
theorem ra_iinc {ι : Type} {own : String} {b : ByteArray} {K : ι → sm_K} (R : ∀ i, sm_R own b (K i)) : ru_iinc own b (fun pc L st h => ∀ i, K i pc L st h) := by
  intro pc L st h i n x v hd hL hv ho k i0
  exact rl_iinc (R i0) hd hL hv ho (k i0)
theorem ra_iadd {ι : Type} {own : String} {b : ByteArray} {K : ι → sm_K} (R : ∀ i, sm_R own b (K i)) : ru_iadd own b (fun pc L st h => ∀ i, K i pc L st h) := by
  intro pc L st h x y hd k i0
  exact rl_iadd (R i0) hd (k i0)
theorem ra_isub {ι : Type} {own : String} {b : ByteArray} {K : ι → sm_K} (R : ∀ i, sm_R own b (K i)) : ru_isub own b (fun pc L st h => ∀ i, K i pc L st h) := by
  intro pc L st h x y hd k i0
  exact rl_isub (R i0) hd (k i0)
theorem ra_imul {ι : Type} {own : String} {b : ByteArray} {K : ι → sm_K} (R : ∀ i, sm_R own b (K i)) : ru_imul own b (fun pc L st h => ∀ i, K i pc L st h) := by
  intro pc L st h x y hd k i0
  exact rl_imul (R i0) hd (k i0)
theorem ra_iand {ι : Type} {own : String} {b : ByteArray} {K : ι → sm_K} (R : ∀ i, sm_R own b (K i)) : ru_iand own b (fun pc L st h => ∀ i, K i pc L st h) := by
  intro pc L st h x y hd k i0
  exact rl_iand (R i0) hd (k i0)
theorem ra_ior {ι : Type} {own : String} {b : ByteArray} {K : ι → sm_K} (R : ∀ i, sm_R own b (K i)) : ru_ior own b (fun pc L st h => ∀ i, K i pc L st h) := by
  intro pc L st h x y hd k i0
  exact rl_ior (R i0) hd (k i0)
theorem ra_ixor {ι : Type} {own : String} {b : ByteArray} {K : ι → sm_K} (R : ∀ i, sm_R own b (K i)) : ru_ixor own b (fun pc L st h => ∀ i, K i pc L st h) := by
  intro pc L st h x y hd k i0
  exact rl_ixor (R i0) hd (k i0)
theorem ra_ishl {ι : Type} {own : String} {b : ByteArray} {K : ι → sm_K} (R : ∀ i, sm_R own b (K i)) : ru_ishl own b (fun pc L st h => ∀ i, K i pc L st h) := by
  intro pc L st h x y hd k i0
  exact rl_ishl (R i0) hd (k i0)
theorem ra_ishr {ι : Type} {own : String} {b : ByteArray} {K : ι → sm_K} (R : ∀ i, sm_R own b (K i)) : ru_ishr own b (fun pc L st h => ∀ i, K i pc L st h) := by
  intro pc L st h x y hd k i0
  exact rl_ishr (R i0) hd (k i0)
theorem ra_iushr {ι : Type} {own : String} {b : ByteArray} {K : ι → sm_K} (R : ∀ i, sm_R own b (K i)) : ru_iushr own b (fun pc L st h => ∀ i, K i pc L st h) := by
  intro pc L st h x y hd k i0
  exact rl_iushr (R i0) hd (k i0)
theorem ra_ineg {ι : Type} {own : String} {b : ByteArray} {K : ι → sm_K} (R : ∀ i, sm_R own b (K i)) : ru_ineg own b (fun pc L st h => ∀ i, K i pc L st h) := by
  intro pc L st h x hd k i0
  exact rl_ineg (R i0) hd (k i0)
theorem ra_idiv {ι : Type} {own : String} {b : ByteArray} {K : ι → sm_K} (R : ∀ i, sm_R own b (K i)) : ru_idiv own b (fun pc L st h => ∀ i, K i pc L st h) := by
  intro pc L st h x y hd hy k i0
  exact rl_idiv (R i0) hd hy (k i0)
theorem ra_irem {ι : Type} {own : String} {b : ByteArray} {K : ι → sm_K} (R : ∀ i, sm_R own b (K i)) : ru_irem own b (fun pc L st h => ∀ i, K i pc L st h) := by
  intro pc L st h x y hd hy k i0
  exact rl_irem (R i0) hd hy (k i0)
theorem ra_ladd {ι : Type} {own : String} {b : ByteArray} {K : ι → sm_K} (R : ∀ i, sm_R own b (K i)) : ru_ladd own b (fun pc L st h => ∀ i, K i pc L st h) := by
  intro pc L st h x y hd k i0
  exact rl_ladd (R i0) hd (k i0)
theorem ra_lmul {ι : Type} {own : String} {b : ByteArray} {K : ι → sm_K} (R : ∀ i, sm_R own b (K i)) : ru_lmul own b (fun pc L st h => ∀ i, K i pc L st h) := by
  intro pc L st h x y hd k i0
  exact rl_lmul (R i0) hd (k i0)
theorem ra_land {ι : Type} {own : String} {b : ByteArray} {K : ι → sm_K} (R : ∀ i, sm_R own b (K i)) : ru_land own b (fun pc L st h => ∀ i, K i pc L st h) := by
  intro pc L st h x y hd k i0
  exact rl_land (R i0) hd (k i0)
theorem ra_lor {ι : Type} {own : String} {b : ByteArray} {K : ι → sm_K} (R : ∀ i, sm_R own b (K i)) : ru_lor own b (fun pc L st h => ∀ i, K i pc L st h) := by
  intro pc L st h x y hd k i0
  exact rl_lor (R i0) hd (k i0)
theorem ra_lcmp {ι : Type} {own : String} {b : ByteArray} {K : ι → sm_K} (R : ∀ i, sm_R own b (K i)) : ru_lcmp own b (fun pc L st h => ∀ i, K i pc L st h) := by
  intro pc L st h x y hd k i0
  exact rl_lcmp (R i0) hd (k i0)
theorem ra_lshl {ι : Type} {own : String} {b : ByteArray} {K : ι → sm_K} (R : ∀ i, sm_R own b (K i)) : ru_lshl own b (fun pc L st h => ∀ i, K i pc L st h) := by
  intro pc L st h x y hd k i0
  exact rl_lshl (R i0) hd (k i0)
theorem ra_lshr {ι : Type} {own : String} {b : ByteArray} {K : ι → sm_K} (R : ∀ i, sm_R own b (K i)) : ru_lshr own b (fun pc L st h => ∀ i, K i pc L st h) := by
  intro pc L st h x y hd k i0
  exact rl_lshr (R i0) hd (k i0)
theorem ra_lushr {ι : Type} {own : String} {b : ByteArray} {K : ι → sm_K} (R : ∀ i, sm_R own b (K i)) : ru_lushr own b (fun pc L st h => ∀ i, K i pc L st h) := by
  intro pc L st h x y hd k i0
  exact rl_lushr (R i0) hd (k i0)
theorem ra_i2l {ι : Type} {own : String} {b : ByteArray} {K : ι → sm_K} (R : ∀ i, sm_R own b (K i)) : ru_i2l own b (fun pc L st h => ∀ i, K i pc L st h) := by
  intro pc L st h x hd k i0
  exact rl_i2l (R i0) hd (k i0)
theorem ra_l2i {ι : Type} {own : String} {b : ByteArray} {K : ι → sm_K} (R : ∀ i, sm_R own b (K i)) : ru_l2i own b (fun pc L st h => ∀ i, K i pc L st h) := by
  intro pc L st h x hd k i0
  exact rl_l2i (R i0) hd (k i0)
theorem ra_i2b {ι : Type} {own : String} {b : ByteArray} {K : ι → sm_K} (R : ∀ i, sm_R own b (K i)) : ru_i2b own b (fun pc L st h => ∀ i, K i pc L st h) := by
  intro pc L st h x hd k i0
  exact rl_i2b (R i0) hd (k i0)
theorem ra_i2s {ι : Type} {own : String} {b : ByteArray} {K : ι → sm_K} (R : ∀ i, sm_R own b (K i)) : ru_i2s own b (fun pc L st h => ∀ i, K i pc L st h) := by
  intro pc L st h x hd k i0
  exact rl_i2s (R i0) hd (k i0)
theorem ra_dup {ι : Type} {own : String} {b : ByteArray} {K : ι → sm_K} (R : ∀ i, sm_R own b (K i)) : ru_dup own b (fun pc L st h => ∀ i, K i pc L st h) := by
  intro pc L st h v hd hc k i0
  exact rl_dup (R i0) hd hc (k i0)
theorem ra_pop {ι : Type} {own : String} {b : ByteArray} {K : ι → sm_K} (R : ∀ i, sm_R own b (K i)) : ru_pop own b (fun pc L st h => ∀ i, K i pc L st h) := by
  intro pc L st h v hd hc k i0
  exact rl_pop (R i0) hd hc (k i0)
theorem ra_dup2 {ι : Type} {own : String} {b : ByteArray} {K : ι → sm_K} (R : ∀ i, sm_R own b (K i)) : ru_dup2 own b (fun pc L st h => ∀ i, K i pc L st h) := by
  intro pc L st h v w hd hc hc2 k i0
  exact rl_dup2 (R i0) hd hc hc2 (k i0)
theorem ra_if_eq {ι : Type} {own : String} {b : ByteArray} {K : ι → sm_K} (R : ∀ i, sm_R own b (K i)) : ru_if_eq own b (fun pc L st h => ∀ i, K i pc L st h) := by
  intro pc L st h x off tgt hd ht k1 k2 i0
  exact rl_if_eq (R i0) hd ht (fun q => k1 q i0) (fun q => k2 q i0)
theorem ra_icmp_eq {ι : Type} {own : String} {b : ByteArray} {K : ι → sm_K} (R : ∀ i, sm_R own b (K i)) : ru_icmp_eq own b (fun pc L st h => ∀ i, K i pc L st h) := by
  intro pc L st h x y off tgt hd ht k1 k2 i0
  exact rl_icmp_eq (R i0) hd ht (fun q => k1 q i0) (fun q => k2 q i0)
theorem ra_if_ne {ι : Type} {own : String} {b : ByteArray} {K : ι → sm_K} (R : ∀ i, sm_R own b (K i)) : ru_if_ne own b (fun pc L st h => ∀ i, K i pc L st h) := by
  intro pc L st h x off tgt hd ht k1 k2 i0
  exact rl_if_ne (R i0) hd ht (fun q => k1 q i0) (fun q => k2 q i0)
theorem ra_icmp_ne {ι : Type} {own : String} {b : ByteArray} {K : ι → sm_K} (R : ∀ i, sm_R own b (K i)) : ru_icmp_ne own b (fun pc L st h => ∀ i, K i pc L st h) := by
  intro pc L st h x y off tgt hd ht k1 k2 i0
  exact rl_icmp_ne (R i0) hd ht (fun q => k1 q i0) (fun q => k2 q i0)
theorem ra_if_lt {ι : Type} {own : String} {b : ByteArray} {K : ι → sm_K} (R : ∀ i, sm_R own b (K i)) : ru_if_lt own b (fun pc L st h => ∀ i, K i pc L st h) := by
  intro pc L st h x off tgt hd ht k1 k2 i0
  exact rl_if_lt (R i0) hd ht (fun q => k1 q i0) (fun q => k2 q i0)
theorem ra_icmp_lt {ι : Type} {own : String} {b : ByteArray} {K : ι → sm_K} (R : ∀ i, sm_R own b (K i)) : ru_icmp_lt own b (fun pc L st h => ∀ i, K i pc L st h) := by
  intro pc L st h x y off tgt hd ht k1 k2 i0
  exact rl_icmp_lt (R i0) hd ht (fun q => k1 q i0) (fun q => k2 q i0)
theorem ra_if_ge {ι : Type} {own : String} {b : ByteArray} {K : ι → sm_K} (R : ∀ i, sm_R own b (K i)) : ru_if_ge own b (fun pc L st h => ∀ i, K i pc L st h) := by
  intro pc L st h x off tgt hd ht k1 k2 i0
  exact rl_if_ge (R i0) hd ht (fun q => k1 q i0) (fun q => k2 q i0)
theorem ra_icmp_ge {ι : Type} {own : String} {b : ByteArray} {K : ι → sm_K} (R : ∀ i, sm_R own b (K i)) : ru_icmp_ge own b (fun pc L st h => ∀ i, K i pc L st h) := by
  intro pc L st h x y off tgt hd ht k1 k2 i0
  exact rl_icmp_ge (R i0) hd ht (fun q => k1 q i0) (fun q => k2 q i0)
theorem ra_if_gt {ι : Type} {own : String} {b : ByteArray} {K : ι → sm_K} (R : ∀ i, sm_R own b (K i)) : ru_if_gt own b (fun pc L st h => ∀ i, K i pc L st h) := by
  intro pc L st h x off tgt hd ht k1 k2 i0
  exact rl_if_gt (R i0) hd ht (fun q => k1 q i0) (fun q => k2 q i0)
theorem ra_icmp_gt {ι : Type} {own : String} {b : ByteArray} {K : ι → sm_K} (R : ∀ i, sm_R own b (K i)) : ru_icmp_gt own b (fun pc L st h => ∀ i, K i pc L st h) := by
  intro pc L st h x y off tgt hd ht k1 k2 i0
  exact rl_icmp_gt (R i0) hd ht (fun q => k1 q i0) (fun q => k2 q i0)
theorem ra_if_le {ι : Type} {own : String} {b : ByteArray} {K : ι → sm_K} (R : ∀ i, sm_R own b (K i)) : ru_if_le own b (fun pc L st h => ∀ i, K i pc L st h) := by
  intro pc L st h x off tgt hd ht k1 k2 i0
  exact rl_if_le (R i0) hd ht (fun q => k1 q i0) (fun q => k2 q i0)
theorem ra_icmp_le {ι : Type} {own : String} {b : ByteArray} {K : ι → sm_K} (R : ∀ i, sm_R own b (K i)) : ru_icmp_le own b (fun pc L st h => ∀ i, K i pc L st h) := by
  intro pc L st h x y off tgt hd ht k1 k2 i0
  exact rl_icmp_le (R i0) hd ht (fun q => k1 q i0) (fun q => k2 q i0)
theorem ra_goto {ι : Type} {own : String} {b : ByteArray} {K : ι → sm_K} (R : ∀ i, sm_R own b (K i)) : ru_goto own b (fun pc L st h => ∀ i, K i pc L st h) := by
  intro pc L st h off tgt hd ht k i0
  exact rl_goto (R i0) hd ht (k i0)
theorem ra_ifnull {ι : Type} {own : String} {b : ByteArray} {K : ι → sm_K} (R : ∀ i, sm_R own b (K i)) : ru_ifnull own b (fun pc L st h => ∀ i, K i pc L st h) := by
  intro pc L st h x off hd k i0
  exact rl_ifnull (R i0) hd (k i0)
theorem ra_ifnullN {ι : Type} {own : String} {b : ByteArray} {K : ι → sm_K} (R : ∀ i, sm_R own b (K i)) : ru_ifnullN own b (fun pc L st h => ∀ i, K i pc L st h) := by
  intro pc L st h off tgt hd ht k i0
  exact rl_ifnullN (R i0) hd ht (k i0)
theorem ra_ifnonnull {ι : Type} {own : String} {b : ByteArray} {K : ι → sm_K} (R : ∀ i, sm_R own b (K i)) : ru_ifnonnull own b (fun pc L st h => ∀ i, K i pc L st h) := by
  intro pc L st h x off tgt hd ht k i0
  exact rl_ifnonnull (R i0) hd ht (k i0)
theorem ra_ifnonnullN {ι : Type} {own : String} {b : ByteArray} {K : ι → sm_K} (R : ∀ i, sm_R own b (K i)) : ru_ifnonnullN own b (fun pc L st h => ∀ i, K i pc L st h) := by
  intro pc L st h off hd k i0
  exact rl_ifnonnullN (R i0) hd (k i0)
theorem ra_lookup {ι : Type} {own : String} {b : ByteArray} {K : ι → sm_K} (R : ∀ i, sm_R own b (K i)) : ru_lookup own b (fun pc L st h => ∀ i, K i pc L st h) := by
  intro pc L st h dflt ps len x off tgt hd hp ho ht k i0
  exact rl_lookup (R i0) hd hp ho ht (k i0)
theorem ra_tableOut {ι : Type} {own : String} {b : ByteArray} {K : ι → sm_K} (R : ∀ i, sm_R own b (K i)) : ru_tableOut own b (fun pc L st h => ∀ i, K i pc L st h) := by
  intro pc L st h dflt lo hi offs len x tgt hd ho ht k i0
  exact rl_tableOut (R i0) hd ho ht (k i0)
theorem ra_tableIn {ι : Type} {own : String} {b : ByteArray} {K : ι → sm_K} (R : ∀ i, sm_R own b (K i)) : ru_tableIn own b (fun pc L st h => ∀ i, K i pc L st h) := by
  intro pc L st h dflt lo hi offs len x off tgt hd h1 h2 ho ht k i0
  exact rl_tableIn (R i0) hd h1 h2 ho ht (k i0)
theorem ra_getf {ι : Type} {own : String} {b : ByteArray} {K : ι → sm_K} (R : ∀ i, sm_R own b (K i)) : ru_getf own b (fun pc L st h => ∀ i, K i pc L st h) := by
  intro pc L st h i a ci j fs v hd hF hh hv k i0
  exact rl_getf (R i0) hd hF hh hv (k i0)
theorem ra_putI {ι : Type} {own : String} {b : ByteArray} {K : ι → sm_K} (R : ∀ i, sm_R own b (K i)) : ru_putI own b (fun pc L st h => ∀ i, K i pc L st h) := by
  intro pc L st h i a ci j fs x hd hF hh hj2 k i0
  exact rl_putI (R i0) hd hF hh hj2 (k i0)
theorem ra_putZ {ι : Type} {own : String} {b : ByteArray} {K : ι → sm_K} (R : ∀ i, sm_R own b (K i)) : ru_putZ own b (fun pc L st h => ∀ i, K i pc L st h) := by
  intro pc L st h i a ci j fs x hd hF hh hj2 hz k i0
  exact rl_putZ (R i0) hd hF hh hj2 hz (k i0)
theorem ra_iald {ι : Type} {own : String} {b : ByteArray} {K : ι → sm_K} (R : ∀ i, sm_R own b (K i)) : ru_iald own b (fun pc L st h => ∀ i, K i pc L st h) := by
  intro pc L st h a n j f i hd hh hi hj hN k i0
  exact rl_iald (R i0) hd hh hi hj hN (k i0)
theorem ra_iast {ι : Type} {own : String} {b : ByteArray} {K : ι → sm_K} (R : ∀ i, sm_R own b (K i)) : ru_iast own b (fun pc L st h => ∀ i, K i pc L st h) := by
  intro pc L st h a n j f i x hd hh hi hj hN k i0
  exact rl_iast (R i0) hd hh hi hj hN (k i0)
theorem ra_alen {ι : Type} {own : String} {b : ByteArray} {K : ι → sm_K} (R : ∀ i, sm_R own b (K i)) : ru_alen own b (fun pc L st h => ∀ i, K i pc L st h) := by
  intro pc L st h a n f hd hh k i0
  exact rl_alen (R i0) hd hh (k i0)
theorem ra_alenQ {ι : Type} {own : String} {b : ByteArray} {K : ι → sm_K} (R : ∀ i, sm_R own b (K i)) : ru_alenQ own b (fun pc L st h => ∀ i, K i pc L st h) := by
  intro pc L st h a n f hd hh k i0
  exact rl_alenQ (R i0) hd hh (k i0)
theorem ra_aald {ι : Type} {own : String} {b : ByteArray} {K : ι → sm_K} (R : ∀ i, sm_R own b (K i)) : ru_aald own b (fun pc L st h => ∀ i, K i pc L st h) := by
  intro pc L st h a n j q f i hd hh hi hj hN hf k i0
  exact rl_aald (R i0) hd hh hi hj hN hf (k i0)
theorem ra_max {ι : Type} {own : String} {b : ByteArray} {K : ι → sm_K} (R : ∀ i, sm_R own b (K i)) : ru_max own b (fun pc L st h => ∀ i, K i pc L st h) := by
  intro pc L st h i x y hd hk hst k i0
  exact rl_max (R i0) hd hk hst (k i0)
theorem ra_min {ι : Type} {own : String} {b : ByteArray} {K : ι → sm_K} (R : ∀ i, sm_R own b (K i)) : ru_min own b (fun pc L st h => ∀ i, K i pc L st h) := by
  intro pc L st h i x y hd hk hst k i0
  exact rl_min (R i0) hd hk hst (k i0)
theorem ra_copy {ι : Type} {own : String} {b : ByteArray} {K : ι → sm_K} (R : ∀ i, sm_R own b (K i)) : ru_copy own b (fun pc L st h => ∀ i, K i pc L st h) := by
  intro pc L st h i a a0 n0 n1 sp dp n f g x y z hd hk hst hh0 hh1 hx0 hy hz h4 h5 hN k i0
  exact rl_copy (R i0) hd hk hst hh0 hh1 hx0 hy hz h4 h5 hN (k i0)
theorem sm_R_all {ι : Type} {own : String} {b : ByteArray} {K : ι → sm_K} (R : ∀ i, sm_R own b (K i)) : sm_R own b (fun pc L st h => ∀ i, K i pc L st h) := ⟨⟨ra_iconst R, ra_bipush R, ra_sipush R, ra_lconst R, ra_null R, ra_ldc R, ra_ldcw R, ra_ldc2 R, ra_iload R, ra_iload_n R⟩, ⟨ra_lload R, ra_lload_n R, ra_aload R, ra_aload_n R, ra_aloadN R, ra_aload_nN R, ra_istore R, ra_istore_n R, ra_astore R, ra_astore_n R⟩, ⟨ra_astoreN R, ra_astore_nN R, ra_iinc R, ra_iadd R, ra_isub R, ra_imul R, ra_iand R, ra_ior R, ra_ixor R, ra_ishl R⟩, ⟨ra_ishr R, ra_iushr R, ra_ineg R, ra_idiv R, ra_irem R, ra_ladd R, ra_lmul R, ra_land R, ra_lor R, ra_lcmp R⟩, ⟨ra_lshl R, ra_lshr R, ra_lushr R, ra_i2l R, ra_l2i R, ra_i2b R, ra_i2s R, ra_dup R, ra_pop R, ra_dup2 R⟩, ⟨ra_if_eq R, ra_icmp_eq R, ra_if_ne R, ra_icmp_ne R, ra_if_lt R, ra_icmp_lt R, ra_if_ge R, ra_icmp_ge R, ra_if_gt R, ra_icmp_gt R⟩, ⟨ra_if_le R, ra_icmp_le R, ra_goto R, ra_ifnull R, ra_ifnullN R, ra_ifnonnull R, ra_ifnonnullN R, ra_lookup R, ra_tableOut R, ra_tableIn R⟩, ⟨ra_getf R, ra_putI R, ra_putZ R, ra_iald R, ra_iast R, ra_alen R, ra_alenQ R, ra_aald R, ra_max R, ra_min R⟩, ra_copy R⟩
