/-! PURE ROWS, AND THE JUDGEMENT'S ROWS OVER NUMBERS -/
theorem nx_and (a b : Nat) : nI a &&& nI b = nI (a &&& b) := by
  apply Int32.toBitVec_inj.1
  show BitVec.ofNat 32 a &&& BitVec.ofNat 32 b = BitVec.ofNat 32 (a &&& b)
  apply BitVec.eq_of_getLsbD_eq
  intro i hi
  simp [hi]
theorem nx_or (a b : Nat) : nI a ||| nI b = nI (a ||| b) := by
  apply Int32.toBitVec_inj.1
  show BitVec.ofNat 32 a ||| BitVec.ofNat 32 b = BitVec.ofNat 32 (a ||| b)
  apply BitVec.eq_of_getLsbD_eq
  intro i hi
  simp [hi]
theorem nx_xor (a b : Nat) : nI a ^^^ nI b = nI (a ^^^ b) := by
  apply Int32.toBitVec_inj.1
  show BitVec.ofNat 32 a ^^^ BitVec.ofNat 32 b = BitVec.ofNat 32 (a ^^^ b)
  apply BitVec.eq_of_getLsbD_eq
  intro i hi
  simp [hi]
theorem nx_andn (a b : Nat) : nI a &&& (nI b ^^^ (-1)) = nI (a ^^^ (a &&& b)) := by
  rw [← nx_xor, ← nx_and]
  apply Int32.toBitVec_inj.1
  show BitVec.ofNat 32 a &&& (BitVec.ofNat 32 b ^^^ BitVec.allOnes 32) = BitVec.ofNat 32 a ^^^ (BitVec.ofNat 32 a &&& BitVec.ofNat 32 b)
  apply BitVec.eq_of_getLsbD_eq
  intro i hi
  simp only [BitVec.getLsbD_and, BitVec.getLsbD_xor, BitVec.getLsbD_allOnes, hi, decide_true, Bool.xor_true]
  cases (BitVec.ofNat 32 a).getLsbD i <;> cases (BitVec.ofNat 32 b).getLsbD i <;> rfl
theorem nx_nand (a b : Nat) : (nI b ^^^ (-1)) &&& nI a = nI (a ^^^ (a &&& b)) := by
  rw [Int32.and_comm]
  exact nx_andn a b
theorem s_l : ∀ n, n < 32 → ((nI n &&& 31).toBitVec.smod 32).toNat = n := by decide +kernel
theorem nx_shl {a k : Nat} (hk : k < 32) (h : a * 2 ^ k < 2 ^ 32) : nI a <<< (nI k &&& 31) = nI (a * 2 ^ k) := pk_shlN _ k (s_l k hk) h
theorem nx_shr {a k : Nat} (h : a < 2 ^ 31) (hk : k < 32) : nI a >>> (nI k &&& 31) = nI (a / 2 ^ k) := pk_shrN h _ k (s_l k hk)
/-- a truth as a number -/
def bI (b : Bool) : Int32 := if b = true then 1 else 0
theorem bI_01 (b : Bool) : bI b = 0 ∨ bI b = 1 := by cases b; exact Or.inl rfl; exact Or.inr rfl
theorem bI_t {b : Bool} (h : b = true) : bI b = 1 := by rw [h]; rfl
theorem bI_f {b : Bool} (h : b = false) : bI b = 0 := by rw [h]; rfl
section NR
variable {X : XT} {l : Launch} {d : Nat} {M : MD}
theorem tt_iaddN (hX : Cx X l d M) {pc q : Nat} {L S : List Value} {μ : Mem} {a b : Nat} (hd : decode M.2.1 pc = .ok (.iadd, 1)) (hq : pc + 1 = q) (k : TT X q L (.int (nI (a + b)) :: S) μ) : TT X pc L (.int (nI b) :: .int (nI a) :: S) μ := tt_iadd hX hd hq (by rw [nI_add]; exact k)
theorem tt_isubN (hX : Cx X l d M) {pc q : Nat} {L S : List Value} {μ : Mem} {a b : Nat} (h : b ≤ a) (hd : decode M.2.1 pc = .ok (.isub, 1)) (hq : pc + 1 = q) (k : TT X q L (.int (nI (a - b)) :: S) μ) : TT X pc L (.int (nI b) :: .int (nI a) :: S) μ := tt_isub hX hd hq (by rw [pk_sub h]; exact k)
theorem tt_imulN (hX : Cx X l d M) {pc q : Nat} {L S : List Value} {μ : Mem} {a b : Nat} (hd : decode M.2.1 pc = .ok (.imul, 1)) (hq : pc + 1 = q) (k : TT X q L (.int (nI (a * b)) :: S) μ) : TT X pc L (.int (nI b) :: .int (nI a) :: S) μ := tt_imul hX hd hq (by rw [pk_mul]; exact k)
theorem tt_iandN (hX : Cx X l d M) {pc q : Nat} {L S : List Value} {μ : Mem} {a b : Nat} (hd : decode M.2.1 pc = .ok (.iand, 1)) (hq : pc + 1 = q) (k : TT X q L (.int (nI (a &&& b)) :: S) μ) : TT X pc L (.int (nI b) :: .int (nI a) :: S) μ := tt_iand hX hd hq (by rw [nx_and]; exact k)
theorem tt_iorN (hX : Cx X l d M) {pc q : Nat} {L S : List Value} {μ : Mem} {a b : Nat} (hd : decode M.2.1 pc = .ok (.ior, 1)) (hq : pc + 1 = q) (k : TT X q L (.int (nI (a ||| b)) :: S) μ) : TT X pc L (.int (nI b) :: .int (nI a) :: S) μ := tt_ior hX hd hq (by rw [nx_or]; exact k)
theorem tt_ixorN (hX : Cx X l d M) {pc q : Nat} {L S : List Value} {μ : Mem} {a b : Nat} (hd : decode M.2.1 pc = .ok (.ixor, 1)) (hq : pc + 1 = q) (k : TT X q L (.int (nI (a ^^^ b)) :: S) μ) : TT X pc L (.int (nI b) :: .int (nI a) :: S) μ := tt_ixor hX hd hq (by rw [nx_xor]; exact k)
theorem tt_iandnN (hX : Cx X l d M) {pc q : Nat} {L S : List Value} {μ : Mem} {a b : Nat} (hd : decode M.2.1 pc = .ok (.iand, 1)) (hq : pc + 1 = q) (k : TT X q L (.int (nI (a ^^^ (a &&& b))) :: S) μ) : TT X pc L (.int (nI b ^^^ (-1)) :: .int (nI a) :: S) μ := tt_iand hX hd hq (by rw [nx_andn]; exact k)
theorem tt_inandN (hX : Cx X l d M) {pc q : Nat} {L S : List Value} {μ : Mem} {a b : Nat} (hd : decode M.2.1 pc = .ok (.iand, 1)) (hq : pc + 1 = q) (k : TT X q L (.int (nI (a ^^^ (a &&& b))) :: S) μ) : TT X pc L (.int (nI a) :: .int (nI b ^^^ (-1)) :: S) μ := tt_iand hX hd hq (by rw [nx_nand]; exact k)
theorem tt_ishlN (hX : Cx X l d M) {pc q : Nat} {L S : List Value} {μ : Mem} {a b : Nat} (hb : b < 32) (h : a * 2 ^ b < 2 ^ 32) (hd : decode M.2.1 pc = .ok (.ishl, 1)) (hq : pc + 1 = q) (k : TT X q L (.int (nI (a * 2 ^ b)) :: S) μ) : TT X pc L (.int (nI b) :: .int (nI a) :: S) μ := tt_ishl hX hd hq (by rw [nx_shl hb h]; exact k)
theorem tt_ishl1 (hX : Cx X l d M) {pc q : Nat} {L S : List Value} {μ : Mem} {b : Nat} (hb : b < 31) (hd : decode M.2.1 pc = .ok (.ishl, 1)) (hq : pc + 1 = q) (k : TT X q L (.int (nI (2 ^ b)) :: S) μ) : TT X pc L (.int (nI b) :: .int (nI 1) :: S) μ := tt_ishl hX hd hq (by rw [nx_shl (by omega) (by rw [Nat.one_mul]; exact Nat.pow_lt_pow_right (by decide) (by omega)), Nat.one_mul]; exact k)
theorem tt_ishrN (hX : Cx X l d M) {pc q : Nat} {L S : List Value} {μ : Mem} {a b : Nat} (ha : a < 2 ^ 31) (hb : b < 32) (hd : decode M.2.1 pc = .ok (.ishr, 1)) (hq : pc + 1 = q) (k : TT X q L (.int (nI (a / 2 ^ b)) :: S) μ) : TT X pc L (.int (nI b) :: .int (nI a) :: S) μ := tt_ishr hX hd hq (by rw [nx_shr ha hb]; exact k)
theorem tt_iremN (hX : Cx X l d M) {pc q : Nat} {L S : List Value} {μ : Mem} {a b : Nat} (ha : a < 2 ^ 31) (h0 : 0 < b) (hb : b < 2 ^ 31) (hd : decode M.2.1 pc = .ok (.irem, 1)) (hq : pc + 1 = q) (k : TT X q L (.int (nI (a % b)) :: S) μ) : TT X pc L (.int (nI b) :: .int (nI a) :: S) μ := tt_irem hX (nI_ne0 h0 hb) hd hq (by rw [pk_rem ha h0 hb]; exact k)
theorem tt_idivN (hX : Cx X l d M) {pc q : Nat} {L S : List Value} {μ : Mem} {a b : Nat} (ha : a < 2 ^ 31) (h0 : 0 < b) (hb : b < 2 ^ 31) (hd : decode M.2.1 pc = .ok (.idiv, 1)) (hq : pc + 1 = q) (k : TT X q L (.int (nI (a / b)) :: S) μ) : TT X pc L (.int (nI b) :: .int (nI a) :: S) μ := tt_idiv hX (nI_ne0 h0 hb) hd hq (by rw [pk_div ha h0 hb]; exact k)
theorem incN (a : Nat) : nI a + Int32.ofInt 1 = nI (a + 1) := nI_1 a
theorem inc6 (a : Nat) : nI a + Int32.ofInt 6 = nI (a + 6) := nI_add a 6
theorem tt_ialdN (hX : Cx X l d M) {pc q : Nat} {L S : List Value} {μ : Mem} {a n i v : Nat} (hA : HA a 0 n) (hi : i < n) (hv : μ a i = nI v) (hd : decode M.2.1 pc = .ok (.iaload, 1)) (hq : pc + 1 = q) (kk : TT X q L (.int (nI v) :: S) μ) : TT X pc L (.int (nI i) :: .ref a :: S) μ := tt_iald hX hA hi hd hq (by rw [hv]; exact kk)
theorem tt_ialdE (hX : Cx X l d M) {pc q : Nat} {L S : List Value} {μ : Mem} {a n i : Nat} {v : Int32} (hA : HA a 0 n) (hi : i < n) (hv : μ a i = v) (hd : decode M.2.1 pc = .ok (.iaload, 1)) (hq : pc + 1 = q) (kk : TT X q L (.int v :: S) μ) : TT X pc L (.int (nI i) :: .ref a :: S) μ := tt_iald hX hA hi hd hq (by rw [hv]; exact kk)
theorem tt_zaldE (hX : Cx X l d M) {pc q : Nat} {L S : List Value} {μ : Mem} {a n i : Nat} {v : Int32} (hA : HA a 1 n) (hi : i < n) (hv : μ a i = v) (hd : decode M.2.1 pc = .ok (.baload, 1)) (hq : pc + 1 = q) (kk : TT X q L (.int v :: S) μ) : TT X pc L (.int (nI i) :: .ref a :: S) μ := tt_zald hX hA hi hd hq (by rw [hv]; exact kk)
theorem tt_baldE (hX : Cx X l d M) {pc q : Nat} {L S : List Value} {μ : Mem} {a n i : Nat} {v : Int32} (hA : HA a 2 n) (hi : i < n) (hv : μ a i = v) (hd : decode M.2.1 pc = .ok (.baload, 1)) (hq : pc + 1 = q) (kk : TT X q L (.int v :: S) μ) : TT X pc L (.int (nI i) :: .ref a :: S) μ := tt_bald hX hA hi hd hq (by rw [hv]; exact kk)
theorem tt_getIE (hX : Cx X l d M) {pc q : Nat} {L S : List Value} {μ : Mem} {idx ci k a : Nat} {v : Int32} (hF : FLK M.2.2.2.2 idx ci k) (hs : HI a ci k) (hv : μ a k = v) (hd : decode M.2.1 pc = .ok (.getfield idx, 3)) (hq : pc + 3 = q) (kk : TT X q L (.int v :: S) μ) : TT X pc L (.ref a :: S) μ := tt_getI hX hF hs hd hq (by rw [hv]; exact kk)
theorem tt_ifeqN (hX : Cx X l d M) {pc q : Nat} {L S : List Value} {μ : Mem} {a : Nat} {off : Int} {t : Nat} (ha : a < 2 ^ 31) (hd : decode M.2.1 pc = .ok (.ifCond .eq off, 3)) (hq : pc + 3 = q) (ht : (pc : Int) + off = (t : Int)) (kt : a = 0 → TT X t L S μ) (kf : 0 < a → TT X q L S μ) : TT X pc L (.int (nI a) :: S) μ := tt_ifeq hX hd hq ht (fun h => kt (by rcases Nat.eq_zero_or_pos a with z | z; exact z; exact absurd h (nI_ne0 z ha))) (fun h => kf (Nat.pos_of_ne_zero (fun z => h (by rw [z]; rfl))))
theorem tt_ifneN (hX : Cx X l d M) {pc q : Nat} {L S : List Value} {μ : Mem} {a : Nat} {off : Int} {t : Nat} (ha : a < 2 ^ 31) (hd : decode M.2.1 pc = .ok (.ifCond .ne off, 3)) (hq : pc + 3 = q) (ht : (pc : Int) + off = (t : Int)) (kt : 0 < a → TT X t L S μ) (kf : a = 0 → TT X q L S μ) : TT X pc L (.int (nI a) :: S) μ := tt_ifne hX hd hq ht (fun h => kt (Nat.pos_of_ne_zero (fun z => h (by rw [z]; rfl)))) (fun h => kf (by rcases Nat.eq_zero_or_pos a with z | z; exact z; exact absurd h (nI_ne0 z ha)))
theorem tt_ifgtN (hX : Cx X l d M) {pc q : Nat} {L S : List Value} {μ : Mem} {a : Nat} {off : Int} {t : Nat} (ha : a < 2 ^ 31) (hd : decode M.2.1 pc = .ok (.ifCond .gt off, 3)) (hq : pc + 3 = q) (ht : (pc : Int) + off = (t : Int)) (kt : 0 < a → TT X t L S μ) (kf : a = 0 → TT X q L S μ) : TT X pc L (.int (nI a) :: S) μ := tt_ifgt hX hd hq ht (fun h => kt (Nat.pos_of_ne_zero (fun z => by rw [z] at h; exact absurd h (by decide)))) (fun h => kf (by rcases Nat.eq_zero_or_pos a with z | z; exact z; exact absurd (nI_lt z ha) h))
theorem tt_ifleN (hX : Cx X l d M) {pc q : Nat} {L S : List Value} {μ : Mem} {a : Nat} {off : Int} {t : Nat} (ha : a < 2 ^ 31) (hd : decode M.2.1 pc = .ok (.ifCond .le off, 3)) (hq : pc + 3 = q) (ht : (pc : Int) + off = (t : Int)) (kt : a = 0 → TT X t L S μ) (kf : 0 < a → TT X q L S μ) : TT X pc L (.int (nI a) :: S) μ := tt_ifle hX hd hq ht (fun h => kt (by rcases Nat.eq_zero_or_pos a with z | z; exact z; exact absurd h (nI_nle z ha))) (fun h => kf (Nat.pos_of_ne_zero (fun z => h (by rw [z]; decide))))
theorem tt_ifltN (hX : Cx X l d M) {pc q : Nat} {L S : List Value} {μ : Mem} {a : Nat} {off : Int} {t : Nat} (ha : a < 2 ^ 31) (hd : decode M.2.1 pc = .ok (.ifCond .lt off, 3)) (hq : pc + 3 = q) (ht : (pc : Int) + off = (t : Int)) (kf : TT X q L S μ) : TT X pc L (.int (nI a) :: S) μ := tt_iflt hX hd hq ht (fun h => absurd h (nI_pos ha)) (fun _ => kf)
theorem tt_ifgeN (hX : Cx X l d M) {pc q : Nat} {L S : List Value} {μ : Mem} {a : Nat} {off : Int} {t : Nat} (ha : a < 2 ^ 31) (hd : decode M.2.1 pc = .ok (.ifCond .ge off, 3)) (hq : pc + 3 = q) (ht : (pc : Int) + off = (t : Int)) (kt : TT X t L S μ) : TT X pc L (.int (nI a) :: S) μ := tt_ifge hX hd hq ht (fun _ => kt) (fun h => absurd (nI_pos' ha) h)
theorem tt_ifeqB (hX : Cx X l d M) {pc q : Nat} {L S : List Value} {μ : Mem} {b : Bool} {off : Int} {t : Nat} (hd : decode M.2.1 pc = .ok (.ifCond .eq off, 3)) (hq : pc + 3 = q) (ht : (pc : Int) + off = (t : Int)) (kt : b = false → TT X t L S μ) (kf : b = true → TT X q L S μ) : TT X pc L (.int (bI b) :: S) μ := tt_ifeq hX hd hq ht (fun h => kt (by cases b; rfl; exact absurd h (by decide))) (fun h => kf (by cases b; exact absurd rfl h; rfl))
theorem tt_ifneB (hX : Cx X l d M) {pc q : Nat} {L S : List Value} {μ : Mem} {b : Bool} {off : Int} {t : Nat} (hd : decode M.2.1 pc = .ok (.ifCond .ne off, 3)) (hq : pc + 3 = q) (ht : (pc : Int) + off = (t : Int)) (kt : b = true → TT X t L S μ) (kf : b = false → TT X q L S μ) : TT X pc L (.int (bI b) :: S) μ := tt_ifne hX hd hq ht (fun h => kt (by cases b; exact absurd rfl h; rfl)) (fun h => kf (by cases b; rfl; exact absurd h (by decide)))
theorem tt_iceqN (hX : Cx X l d M) {pc q : Nat} {L S : List Value} {μ : Mem} {a b : Nat} {off : Int} {t : Nat} (ha : a < 2 ^ 31) (hb : b < 2 ^ 31) (hd : decode M.2.1 pc = .ok (.if_icmp .eq off, 3)) (hq : pc + 3 = q) (ht : (pc : Int) + off = (t : Int)) (kt : a = b → TT X t L S μ) (kf : ¬ a = b → TT X q L S μ) : TT X pc L (.int (nI b) :: .int (nI a) :: S) μ := tt_iceq hX hd hq ht (fun h => kt ((nI_eq ha hb).mp h)) (fun h => kf (by have h' := fun z => h ((nI_eq ha hb).mpr z); exact h'))
theorem tt_icgeN (hX : Cx X l d M) {pc q : Nat} {L S : List Value} {μ : Mem} {a b : Nat} {off : Int} {t : Nat} (ha : a < 2 ^ 31) (hb : b < 2 ^ 31) (hd : decode M.2.1 pc = .ok (.if_icmp .ge off, 3)) (hq : pc + 3 = q) (ht : (pc : Int) + off = (t : Int)) (kt : b ≤ a → TT X t L S μ) (kf : a < b → TT X q L S μ) : TT X pc L (.int (nI b) :: .int (nI a) :: S) μ := tt_icge hX hd hq ht (fun h => kt ((nI_leI hb ha).mp h)) (fun h => kf (by have h' := fun z => h ((nI_leI hb ha).mpr z); exact Nat.not_le.mp h'))
theorem tt_icltN (hX : Cx X l d M) {pc q : Nat} {L S : List Value} {μ : Mem} {a b : Nat} {off : Int} {t : Nat} (ha : a < 2 ^ 31) (hb : b < 2 ^ 31) (hd : decode M.2.1 pc = .ok (.if_icmp .lt off, 3)) (hq : pc + 3 = q) (ht : (pc : Int) + off = (t : Int)) (kt : a < b → TT X t L S μ) (kf : b ≤ a → TT X q L S μ) : TT X pc L (.int (nI b) :: .int (nI a) :: S) μ := tt_iclt hX hd hq ht (fun h => kt ((nI_ltI ha hb).mp h)) (fun h => kf (by have h' := fun z => h ((nI_ltI ha hb).mpr z); exact Nat.not_lt.mp h'))
theorem tt_icgtN (hX : Cx X l d M) {pc q : Nat} {L S : List Value} {μ : Mem} {a b : Nat} {off : Int} {t : Nat} (ha : a < 2 ^ 31) (hb : b < 2 ^ 31) (hd : decode M.2.1 pc = .ok (.if_icmp .gt off, 3)) (hq : pc + 3 = q) (ht : (pc : Int) + off = (t : Int)) (kt : b < a → TT X t L S μ) (kf : a ≤ b → TT X q L S μ) : TT X pc L (.int (nI b) :: .int (nI a) :: S) μ := tt_icgt hX hd hq ht (fun h => kt ((nI_ltI hb ha).mp h)) (fun h => kf (by have h' := fun z => h ((nI_ltI hb ha).mpr z); exact Nat.not_lt.mp h'))
theorem tt_icleN (hX : Cx X l d M) {pc q : Nat} {L S : List Value} {μ : Mem} {a b : Nat} {off : Int} {t : Nat} (ha : a < 2 ^ 31) (hb : b < 2 ^ 31) (hd : decode M.2.1 pc = .ok (.if_icmp .le off, 3)) (hq : pc + 3 = q) (ht : (pc : Int) + off = (t : Int)) (kt : a ≤ b → TT X t L S μ) (kf : b < a → TT X q L S μ) : TT X pc L (.int (nI b) :: .int (nI a) :: S) μ := tt_icle hX hd hq ht (fun h => kt ((nI_leI ha hb).mp h)) (fun h => kf (by have h' := fun z => h ((nI_leI ha hb).mpr z); exact Nat.not_le.mp h'))
theorem tt_icneN (hX : Cx X l d M) {pc q : Nat} {L S : List Value} {μ : Mem} {a b : Nat} {off : Int} {t : Nat} (ha : a < 2 ^ 31) (hb : b < 2 ^ 31) (hd : decode M.2.1 pc = .ok (.if_icmp .ne off, 3)) (hq : pc + 3 = q) (ht : (pc : Int) + off = (t : Int)) (kt : ¬ a = b → TT X t L S μ) (kf : a = b → TT X q L S μ) : TT X pc L (.int (nI b) :: .int (nI a) :: S) μ := tt_icne hX hd hq ht (fun h => kt (fun z => h ((nI_eq ha hb).mpr z))) (fun h => kf ((nI_eq ha hb).mp h))
end NR
/-! what the stack's top looks like (to choose a row) -/
theorem chk1 {X : XT} {pc : Nat} {L S : List Value} {μ : Mem} {a : Nat} (h : TT X pc L (.int (nI a) :: S) μ) : TT X pc L (.int (nI a) :: S) μ := h
theorem chk2 {X : XT} {pc : Nat} {L S : List Value} {μ : Mem} {a b : Nat} (h : TT X pc L (.int (nI b) :: .int (nI a) :: S) μ) : TT X pc L (.int (nI b) :: .int (nI a) :: S) μ := h
theorem chks {X : XT} {pc : Nat} {L S : List Value} {μ : Mem} {b : Nat} (h : TT X pc L (.int (nI b) :: .int (nI 1) :: S) μ) : TT X pc L (.int (nI b) :: .int (nI 1) :: S) μ := h
theorem chkan {X : XT} {pc : Nat} {L S : List Value} {μ : Mem} {a b : Nat} (h : TT X pc L (.int (nI b ^^^ (-1)) :: .int (nI a) :: S) μ) : TT X pc L (.int (nI b ^^^ (-1)) :: .int (nI a) :: S) μ := h
theorem chkna {X : XT} {pc : Nat} {L S : List Value} {μ : Mem} {a b : Nat} (h : TT X pc L (.int (nI a) :: .int (nI b ^^^ (-1)) :: S) μ) : TT X pc L (.int (nI a) :: .int (nI b ^^^ (-1)) :: S) μ := h
theorem chkb {X : XT} {pc : Nat} {L S : List Value} {μ : Mem} {b : Bool} (h : TT X pc L (.int (bI b) :: S) μ) : TT X pc L (.int (bI b) :: S) μ := h
theorem qi {Q : Option Value → Mem → Prop} {μ : Mem} {a b : Int32} (h : Q (some (.int a)) μ) (e : b = a) : Q (some (.int b)) μ := e ▸ h
theorem qm {Q : Option Value → Mem → Prop} {μ ν : Mem} {r : Option Value} (h : Q r μ) (e : ν = μ) : Q r ν := e ▸ h
