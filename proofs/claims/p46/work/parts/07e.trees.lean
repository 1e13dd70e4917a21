/-! ===== what each stretch of each method does (by program wip/gen) ===== -/
-- LastStirredLaw.law([I)Z
set_option maxRecDepth 1000000 in
set_option maxHeartbeats 8000000 in
theorem t_137_0 (call : Nat → List Value → Sto → Option Rr) (again : Nat → j_L → List Value → Sto → Option Rr) (σ : Sto) (v0 : Nat) :
    j_seg k_137 h_137 call again 2000 0 [some (.ref v0), none, none, none, none, none, none, none, none, none, none, none, none, none, none, none, none] [] σ =
    let τ1 : Sto := s_al σ (.inl 6) 16;
    j_c0 call 68 [.ref (s_n σ)] τ1 (fun τ2 =>
    if (j_k 64) < 0 ∨ 100000 < (j_k 64).toNatClampNeg then none else
    let τ3 : Sto := s_al τ2 (.inr (.int, (j_k 64).toNatClampNeg)) (j_k 64).toNatClampNeg;
    j_c0 call 130 [.ref v0, .int (j_k 10), .int (j_k 4), .ref (s_n τ2)] τ3 (fun τ4 =>
    j_c1 call 131 [.ref (s_n σ), .ref (s_n τ2)] τ4 (fun x6 τ5 =>
    if x6 = 0 then (if (j_k 0) = 0 ∨ (j_k 0) = 1 then some (some (.int (j_k 0)), τ5) else none)
    else j_ia τ5 (s_n τ2) (j_k 40) (
    if (j_k 4) < 0 ∨ 100000 < (j_k 4).toNatClampNeg then none else
    let τ7 : Sto := s_al τ5 (.inr (.int, (j_k 4).toNatClampNeg)) (j_k 4).toNatClampNeg;
    if (j_k 4) < 0 ∨ 100000 < (j_k 4).toNatClampNeg then none else
    let τ8 : Sto := s_al τ7 (.inr (.int, (j_k 4).toNatClampNeg)) (j_k 4).toNatClampNeg;
    again 49 [some (.ref v0), some (.ref (s_n σ)), some (.ref (s_n τ2)), some (.int (s_I τ5 (s_n τ2) (j_k 40).toNatClampNeg)), some (.ref (s_n τ5)), some (.ref (s_n τ7)), some (.int (j_k 0)), none, none, none, none, none, none, none, none, none, none] [] τ8)))) := rfl

set_option maxRecDepth 1000000 in
set_option maxHeartbeats 8000000 in
theorem t_137_49 (call : Nat → List Value → Sto → Option Rr) (again : Nat → j_L → List Value → Sto → Option Rr) (σ : Sto) (v0 : Nat) (v1 : Nat) (v2 : Nat) (v3 : Int32) (v4 : Nat) (v5 : Nat) (v6 : Int32) :
    j_seg k_137 h_137 call again 2000 49 [some (.ref v0), some (.ref v1), some (.ref v2), some (.int v3), some (.ref v4), some (.ref v5), some (.int v6), none, none, none, none, none, none, none, none, none, none] [] σ =
    if v6 < v3 then (j_ia σ v2 ((j_k 45) + v6) (
     j_is σ v4 v6 (let τ1 : Sto := s_uI σ v4 v6.toNatClampNeg (s_I σ v2 ((j_k 45) + v6).toNatClampNeg);
     again 49 [some (.ref v0), some (.ref v1), some (.ref v2), some (.int v3), some (.ref v4), some (.ref v5), some (.int (v6 + (j_k 1))), none, none, none, none, none, none, none, none, none, none] [] τ1)))
    else j_oc σ 6 v1 (j_c1 call 100 [.ref v1] σ (fun x3 τ2 =>
    j_oc τ2 6 v1 (j_c1 call 105 [.ref v1] τ2 (fun x5 τ4 =>
    again 88 [some (.ref v0), some (.ref v1), some (.ref v2), some (.int v3), some (.ref v4), some (.ref v5), some (.int x3), some (.int x5), some (.int (j_k 0)), none, none, none, none, none, none, none, none] [] τ4)))) := rfl

set_option maxRecDepth 1000000 in
set_option maxHeartbeats 8000000 in
theorem t_137_88 (call : Nat → List Value → Sto → Option Rr) (again : Nat → j_L → List Value → Sto → Option Rr) (σ : Sto) (v0 : Nat) (v1 : Nat) (v2 : Nat) (v3 : Int32) (v4 : Nat) (v5 : Nat) (v6 : Int32) (v7 : Int32) (v8 : Int32) :
    j_seg k_137 h_137 call again 2000 88 [some (.ref v0), some (.ref v1), some (.ref v2), some (.int v3), some (.ref v4), some (.ref v5), some (.int v6), some (.int v7), some (.int v8), none, none, none, none, none, none, none, none] [] σ =
    if v8 < (j_k 8) then (j_c1 call 128 [.ref v0, .int ((j_k 60) + v8)] σ (fun x2 τ1 =>
     if 0 < v3 then (again 110 [some (.ref v0), some (.ref v1), some (.ref v2), some (.int v3), some (.ref v4), some (.ref v5), some (.int v6), some (.int v7), some (.int v8), some (.int x2), none, none, none, none, none, none, none] [] τ1)
     else again 196 [some (.ref v0), some (.ref v1), some (.ref v2), some (.int v3), some (.ref v4), some (.ref v5), some (.int v6), some (.int v7), some (.int v8), some (.int x2), none, none, none, none, none, none, none] [] τ1))
    else again 451 [some (.ref v0), some (.ref v1), some (.ref v2), some (.int v3), some (.ref v4), some (.ref v5), some (.int v6), some (.int v7), some (.int v8), none, none, none, none, none, none, none, none] [] σ := rfl

set_option maxRecDepth 1000000 in
set_option maxHeartbeats 8000000 in
theorem t_137_110 (call : Nat → List Value → Sto → Option Rr) (again : Nat → j_L → List Value → Sto → Option Rr) (σ : Sto) (v0 : Nat) (v1 : Nat) (v2 : Nat) (v3 : Int32) (v4 : Nat) (v5 : Nat) (v6 : Int32) (v7 : Int32) (v8 : Int32) (v9 : Int32) :
    j_seg k_137 h_137 call again 2000 110 [some (.ref v0), some (.ref v1), some (.ref v2), some (.int v3), some (.ref v4), some (.ref v5), some (.int v6), some (.int v7), some (.int v8), some (.int v9), none, none, none, none, none, none, none] [] σ =
    if (j_k 3) = 0 then none else
    if (v9 - v9 / (j_k 3) * (j_k 3)) = 0 then (if (j_k 4) = 0 then none else
     if v3 = 0 then none else
     if (j_k 16) = 0 then none else
     if (j_k 4) = 0 then none else
     j_oc σ 6 v1 (j_c1 call 84 [.ref v1, .int ((v9 / (j_k 4)) - (v9 / (j_k 4)) / v3 * v3), .int ((v9 / (j_k 16)) - (v9 / (j_k 16)) / (j_k 4) * (j_k 4))] σ (fun x2 τ1 =>
     if x2 < 0 then (again 196 [some (.ref v0), some (.ref v1), some (.ref v2), some (.int v3), some (.ref v4), some (.ref v5), some (.int v6), some (.int v7), some (.int v8), some (.int v9), none, none, none, none, none, none, none] [] τ1)
     else j_ia τ1 v5 ((v9 / (j_k 4)) - (v9 / (j_k 4)) / v3 * v3) (
     j_is τ1 v5 ((v9 / (j_k 4)) - (v9 / (j_k 4)) / v3 * v3) (let τ3 : Sto := s_uI τ1 v5 ((v9 / (j_k 4)) - (v9 / (j_k 4)) / v3 * v3).toNatClampNeg ((s_I τ1 v5 ((v9 / (j_k 4)) - (v9 / (j_k 4)) / v3 * v3).toNatClampNeg) + (j_k 1));
     j_ia τ3 v2 ((j_k 2) + x2) (
     if (s_I τ3 v2 ((j_k 2) + x2).toNatClampNeg) = (j_k 2) then (j_is τ3 v4 ((v9 / (j_k 4)) - (v9 / (j_k 4)) / v3 * v3) (let τ4 : Sto := s_uI τ3 v4 ((v9 / (j_k 4)) - (v9 / (j_k 4)) / v3 * v3).toNatClampNeg (j_k (-9));
      again 176 [some (.ref v0), some (.ref v1), some (.ref v2), some (.int v3), some (.ref v4), some (.ref v5), some (.int v6), some (.int v7), some (.int v8), some (.int v9), some (.int ((v9 / (j_k 4)) - (v9 / (j_k 4)) / v3 * v3)), some (.int x2), none, none, none, none, none] [] τ4))
     else j_is τ3 v4 ((v9 / (j_k 4)) - (v9 / (j_k 4)) / v3 * v3) (let τ5 : Sto := s_uI τ3 v4 ((v9 / (j_k 4)) - (v9 / (j_k 4)) / v3 * v3).toNatClampNeg x2;
     again 176 [some (.ref v0), some (.ref v1), some (.ref v2), some (.int v3), some (.ref v4), some (.ref v5), some (.int v6), some (.int v7), some (.int v8), some (.int v9), some (.int ((v9 / (j_k 4)) - (v9 / (j_k 4)) / v3 * v3)), some (.int x2), none, none, none, none, none] [] τ5)))))))
    else again 196 [some (.ref v0), some (.ref v1), some (.ref v2), some (.int v3), some (.ref v4), some (.ref v5), some (.int v6), some (.int v7), some (.int v8), some (.int v9), none, none, none, none, none, none, none] [] σ := rfl

set_option maxRecDepth 1000000 in
set_option maxHeartbeats 8000000 in
theorem t_137_176 (call : Nat → List Value → Sto → Option Rr) (again : Nat → j_L → List Value → Sto → Option Rr) (σ : Sto) (v0 : Nat) (v1 : Nat) (v2 : Nat) (v3 : Int32) (v4 : Nat) (v5 : Nat) (v6 : Int32) (v7 : Int32) (v8 : Int32) (v9 : Int32) (v10 : Int32) (v11 : Int32) :
    j_seg k_137 h_137 call again 2000 176 [some (.ref v0), some (.ref v1), some (.ref v2), some (.int v3), some (.ref v4), some (.ref v5), some (.int v6), some (.int v7), some (.int v8), some (.int v9), some (.int v10), some (.int v11), none, none, none, none, none] [] σ =
    j_oc σ 6 v1 (j_c1 call 83 [.ref v1] σ (fun x2 τ1 =>
    if x2 = v10 then (j_oc τ1 6 v1 (j_c1 call 105 [.ref v1] τ1 (fun x4 τ3 =>
     if x4 = v11 then (again 196 [some (.ref v0), some (.ref v1), some (.ref v2), some (.int v3), some (.ref v4), some (.ref v5), some (.int v6), some (.int v7), some (.int v8), some (.int v9), none, none, none, none, none, none, none] [] τ3)
     else if (j_k 0) = 0 ∨ (j_k 0) = 1 then some (some (.int (j_k 0)), τ3) else none)))
    else if (j_k 0) = 0 ∨ (j_k 0) = 1 then some (some (.int (j_k 0)), τ1) else none)) := rfl

set_option maxRecDepth 1000000 in
set_option maxHeartbeats 8000000 in
theorem t_137_196 (call : Nat → List Value → Sto → Option Rr) (again : Nat → j_L → List Value → Sto → Option Rr) (σ : Sto) (v0 : Nat) (v1 : Nat) (v2 : Nat) (v3 : Int32) (v4 : Nat) (v5 : Nat) (v6 : Int32) (v7 : Int32) (v8 : Int32) (v9 : Int32) :
    j_seg k_137 h_137 call again 2000 196 [some (.ref v0), some (.ref v1), some (.ref v2), some (.int v3), some (.ref v4), some (.ref v5), some (.int v6), some (.int v7), some (.int v8), some (.int v9), none, none, none, none, none, none, none] [] σ =
    j_oc σ 6 v1 (j_c1 call 85 [.ref v1, .int (j_k 1)] σ (fun x2 τ1 =>
    again 209 [some (.ref v0), some (.ref v1), some (.ref v2), some (.int v3), some (.ref v4), some (.ref v5), some (.int v6), some (.int v7), some (.int v8), some (.int v9), some (.int x2), some (.int (j_k 0)), some (.int (j_k 0)), none, none, none, none] [] τ1)) := rfl

set_option maxRecDepth 1000000 in
set_option maxHeartbeats 8000000 in
theorem t_137_209 (call : Nat → List Value → Sto → Option Rr) (again : Nat → j_L → List Value → Sto → Option Rr) (σ : Sto) (v0 : Nat) (v1 : Nat) (v2 : Nat) (v3 : Int32) (v4 : Nat) (v5 : Nat) (v6 : Int32) (v7 : Int32) (v8 : Int32) (v9 : Int32) (v10 : Int32) (v11 : Int32) (v12 : Int32) :
    j_seg k_137 h_137 call again 2000 209 [some (.ref v0), some (.ref v1), some (.ref v2), some (.int v3), some (.ref v4), some (.ref v5), some (.int v6), some (.int v7), some (.int v8), some (.int v9), some (.int v10), some (.int v11), some (.int v12), none, none, none, none] [] σ =
    if v12 < v3 then (j_oc σ 6 v1 (j_c1 call 81 [.ref v1, .int v12, .int (j_k 1)] σ (fun x2 τ1 =>
     j_c1 call 133 [.ref v1, .int x2] τ1 (fun x4 τ3 =>
     j_oc τ3 6 v1 (j_c1 call 81 [.ref v1, .int v12, .int (j_k 2)] τ3 (fun x6 τ5 =>
     j_c1 call 133 [.ref v1, .int x6] τ5 (fun x8 τ7 =>
     if ((v10 >>> (v12 &&& 31)) &&& (j_k 1)) = (j_k 1) then (again 259 [some (.ref v0), some (.ref v1), some (.ref v2), some (.int v3), some (.ref v4), some (.ref v5), some (.int v6), some (.int v7), some (.int v8), some (.int v9), some (.int v10), some (.int v11), some (.int v12), some (.int x4), some (.int x8), some (.int (j_k 1)), none] [] τ7)
     else again 259 [some (.ref v0), some (.ref v1), some (.ref v2), some (.int v3), some (.ref v4), some (.ref v5), some (.int v6), some (.int v7), some (.int v8), some (.int v9), some (.int v10), some (.int v11), some (.int v12), some (.int x4), some (.int x8), some (.int (j_k 0)), none] [] τ7)))))))
    else again 423 [some (.ref v0), some (.ref v1), some (.ref v2), some (.int v3), some (.ref v4), some (.ref v5), some (.int v6), some (.int v7), some (.int v8), some (.int v9), some (.int v10), some (.int v11), some (.int v12), none, none, none, none] [] σ := rfl

set_option maxRecDepth 1000000 in
set_option maxHeartbeats 8000000 in
theorem t_137_259 (call : Nat → List Value → Sto → Option Rr) (again : Nat → j_L → List Value → Sto → Option Rr) (σ : Sto) (v0 : Nat) (v1 : Nat) (v2 : Nat) (v3 : Int32) (v4 : Nat) (v5 : Nat) (v6 : Int32) (v7 : Int32) (v8 : Int32) (v9 : Int32) (v10 : Int32) (v11 : Int32) (v12 : Int32) (v13 : Int32) (v14 : Int32) (v15 : Int32) :
    j_seg k_137 h_137 call again 2000 259 [some (.ref v0), some (.ref v1), some (.ref v2), some (.int v3), some (.ref v4), some (.ref v5), some (.int v6), some (.int v7), some (.int v8), some (.int v9), some (.int v10), some (.int v11), some (.int v12), some (.int v13), some (.int v14), some (.int v15), none] [] σ =
    if v13 < 0 then (again 274 [some (.ref v0), some (.ref v1), some (.ref v2), some (.int v3), some (.ref v4), some (.ref v5), some (.int v6), some (.int v7), some (.int v8), some (.int v9), some (.int v10), some (.int (v11 + (j_k 1))), some (.int v12), some (.int v13), some (.int v14), some (.int v15), none] [] σ)
    else again 274 [some (.ref v0), some (.ref v1), some (.ref v2), some (.int v3), some (.ref v4), some (.ref v5), some (.int v6), some (.int v7), some (.int v8), some (.int v9), some (.int v10), some (.int (v11 + (j_k 0))), some (.int v12), some (.int v13), some (.int v14), some (.int v15), none] [] σ := rfl

set_option maxRecDepth 1000000 in
set_option maxHeartbeats 8000000 in
theorem t_137_274 (call : Nat → List Value → Sto → Option Rr) (again : Nat → j_L → List Value → Sto → Option Rr) (σ : Sto) (v0 : Nat) (v1 : Nat) (v2 : Nat) (v3 : Int32) (v4 : Nat) (v5 : Nat) (v6 : Int32) (v7 : Int32) (v8 : Int32) (v9 : Int32) (v10 : Int32) (v11 : Int32) (v12 : Int32) (v13 : Int32) (v14 : Int32) (v15 : Int32) :
    j_seg k_137 h_137 call again 2000 274 [some (.ref v0), some (.ref v1), some (.ref v2), some (.int v3), some (.ref v4), some (.ref v5), some (.int v6), some (.int v7), some (.int v8), some (.int v9), some (.int v10), some (.int v11), some (.int v12), some (.int v13), some (.int v14), some (.int v15), none] [] σ =
    j_ia σ v5 v12 (
    if v15 = 0 then (if v14 = ((s_I σ v5 v12.toNatClampNeg) + (j_k 0)) then (again 295 [some (.ref v0), some (.ref v1), some (.ref v2), some (.int v3), some (.ref v4), some (.ref v5), some (.int v6), some (.int v7), some (.int v8), some (.int v9), some (.int v10), some (.int v11), some (.int v12), some (.int v13), some (.int v14), some (.int v15), none] [] σ)
     else if (j_k 0) = 0 ∨ (j_k 0) = 1 then some (some (.int (j_k 0)), σ) else none)
    else if v14 = ((s_I σ v5 v12.toNatClampNeg) + (j_k 1)) then (again 295 [some (.ref v0), some (.ref v1), some (.ref v2), some (.int v3), some (.ref v4), some (.ref v5), some (.int v6), some (.int v7), some (.int v8), some (.int v9), some (.int v10), some (.int v11), some (.int v12), some (.int v13), some (.int v14), some (.int v15), none] [] σ)
    else if (j_k 0) = 0 ∨ (j_k 0) = 1 then some (some (.int (j_k 0)), σ) else none) := rfl

set_option maxRecDepth 1000000 in
set_option maxHeartbeats 8000000 in
theorem t_137_295 (call : Nat → List Value → Sto → Option Rr) (again : Nat → j_L → List Value → Sto → Option Rr) (σ : Sto) (v0 : Nat) (v1 : Nat) (v2 : Nat) (v3 : Int32) (v4 : Nat) (v5 : Nat) (v6 : Int32) (v7 : Int32) (v8 : Int32) (v9 : Int32) (v10 : Int32) (v11 : Int32) (v12 : Int32) (v13 : Int32) (v14 : Int32) (v15 : Int32) :
    j_seg k_137 h_137 call again 2000 295 [some (.ref v0), some (.ref v1), some (.ref v2), some (.int v3), some (.ref v4), some (.ref v5), some (.int v6), some (.int v7), some (.int v8), some (.int v9), some (.int v10), some (.int v11), some (.int v12), some (.int v13), some (.int v14), some (.int v15), none] [] σ =
    j_ia σ v4 v12 (
    if (s_I σ v4 v12.toNatClampNeg) < 0 then (if v13 < 0 then (if v15 = 0 then (again 313 [some (.ref v0), some (.ref v1), some (.ref v2), some (.int v3), some (.ref v4), some (.ref v5), some (.int v6), some (.int v7), some (.int v8), some (.int v9), some (.int v10), some (.int v11), some (.int v12), some (.int v13), some (.int v14), some (.int v15), none] [] σ)
      else if (j_k 0) = 0 ∨ (j_k 0) = 1 then some (some (.int (j_k 0)), σ) else none)
     else if (j_k 0) = 0 ∨ (j_k 0) = 1 then some (some (.int (j_k 0)), σ) else none)
    else again 313 [some (.ref v0), some (.ref v1), some (.ref v2), some (.int v3), some (.ref v4), some (.ref v5), some (.int v6), some (.int v7), some (.int v8), some (.int v9), some (.int v10), some (.int v11), some (.int v12), some (.int v13), some (.int v14), some (.int v15), none] [] σ) := rfl

set_option maxRecDepth 1000000 in
set_option maxHeartbeats 8000000 in
theorem t_137_313 (call : Nat → List Value → Sto → Option Rr) (again : Nat → j_L → List Value → Sto → Option Rr) (σ : Sto) (v0 : Nat) (v1 : Nat) (v2 : Nat) (v3 : Int32) (v4 : Nat) (v5 : Nat) (v6 : Int32) (v7 : Int32) (v8 : Int32) (v9 : Int32) (v10 : Int32) (v11 : Int32) (v12 : Int32) (v13 : Int32) (v14 : Int32) (v15 : Int32) :
    j_seg k_137 h_137 call again 2000 313 [some (.ref v0), some (.ref v1), some (.ref v2), some (.int v3), some (.ref v4), some (.ref v5), some (.int v6), some (.int v7), some (.int v8), some (.int v9), some (.int v10), some (.int v11), some (.int v12), some (.int v13), some (.int v14), some (.int v15), none] [] σ =
    if v13 < 0 then (again 364 [some (.ref v0), some (.ref v1), some (.ref v2), some (.int v3), some (.ref v4), some (.ref v5), some (.int v6), some (.int v7), some (.int v8), some (.int v9), some (.int v10), some (.int v11), some (.int v12), some (.int v13), some (.int v14), some (.int v15), none] [] σ)
    else j_ia σ v2 ((j_k 2) + v13) (
    if (s_I σ v2 ((j_k 2) + v13).toNatClampNeg) = (j_k 1) then (if (j_k 0) = 0 ∨ (j_k 0) = 1 then some (some (.int (j_k 0)), σ) else none)
    else j_ia σ v2 ((j_k 2) + v13) (
    if (s_I σ v2 ((j_k 2) + v13).toNatClampNeg) = (j_k 2) then (if (j_k 0) = 0 ∨ (j_k 0) = 1 then some (some (.int (j_k 0)), σ) else none)
    else j_ia σ v4 v12 (
    j_c1 call 132 [.ref v2, .int v13, .int (s_I σ v4 v12.toNatClampNeg)] σ (fun x2 τ1 =>
    if v15 = 0 then (if x2 = (j_k 0) then (again 364 [some (.ref v0), some (.ref v1), some (.ref v2), some (.int v3), some (.ref v4), some (.ref v5), some (.int v6), some (.int v7), some (.int v8), some (.int v9), some (.int v10), some (.int v11), some (.int v12), some (.int v13), some (.int v14), some (.int v15), none] [] τ1)
     else if (j_k 0) = 0 ∨ (j_k 0) = 1 then some (some (.int (j_k 0)), τ1) else none)
    else if x2 = (j_k 1) then (again 364 [some (.ref v0), some (.ref v1), some (.ref v2), some (.int v3), some (.ref v4), some (.ref v5), some (.int v6), some (.int v7), some (.int v8), some (.int v9), some (.int v10), some (.int v11), some (.int v12), some (.int v13), some (.int v14), some (.int v15), none] [] τ1)
    else if (j_k 0) = 0 ∨ (j_k 0) = 1 then some (some (.int (j_k 0)), τ1) else none)))) := rfl

set_option maxRecDepth 1000000 in
set_option maxHeartbeats 8000000 in
theorem t_137_364 (call : Nat → List Value → Sto → Option Rr) (again : Nat → j_L → List Value → Sto → Option Rr) (σ : Sto) (v0 : Nat) (v1 : Nat) (v2 : Nat) (v3 : Int32) (v4 : Nat) (v5 : Nat) (v6 : Int32) (v7 : Int32) (v8 : Int32) (v9 : Int32) (v10 : Int32) (v11 : Int32) (v12 : Int32) (v13 : Int32) (v14 : Int32) (v15 : Int32) :
    j_seg k_137 h_137 call again 2000 364 [some (.ref v0), some (.ref v1), some (.ref v2), some (.int v3), some (.ref v4), some (.ref v5), some (.int v6), some (.int v7), some (.int v8), some (.int v9), some (.int v10), some (.int v11), some (.int v12), some (.int v13), some (.int v14), some (.int v15), none] [] σ =
    again 367 [some (.ref v0), some (.ref v1), some (.ref v2), some (.int v3), some (.ref v4), some (.ref v5), some (.int v6), some (.int v7), some (.int v8), some (.int v9), some (.int v10), some (.int v11), some (.int v12), some (.int v13), some (.int v14), some (.int v15), some (.int (j_k 0))] [] σ := rfl

set_option maxRecDepth 1000000 in
set_option maxHeartbeats 8000000 in
theorem t_137_367 (call : Nat → List Value → Sto → Option Rr) (again : Nat → j_L → List Value → Sto → Option Rr) (σ : Sto) (v0 : Nat) (v1 : Nat) (v2 : Nat) (v3 : Int32) (v4 : Nat) (v5 : Nat) (v6 : Int32) (v7 : Int32) (v8 : Int32) (v9 : Int32) (v10 : Int32) (v11 : Int32) (v12 : Int32) (v13 : Int32) (v14 : Int32) (v15 : Int32) (v16 : Int32) :
    j_seg k_137 h_137 call again 2000 367 [some (.ref v0), some (.ref v1), some (.ref v2), some (.int v3), some (.ref v4), some (.ref v5), some (.int v6), some (.int v7), some (.int v8), some (.int v9), some (.int v10), some (.int v11), some (.int v12), some (.int v13), some (.int v14), some (.int v15), some (.int v16)] [] σ =
    if v16 < v12 then (if v13 < 0 then (again 367 [some (.ref v0), some (.ref v1), some (.ref v2), some (.int v3), some (.ref v4), some (.ref v5), some (.int v6), some (.int v7), some (.int v8), some (.int v9), some (.int v10), some (.int v11), some (.int v12), some (.int v13), some (.int v14), some (.int v15), some (.int (v16 + (j_k 1)))] [] σ)
     else j_oc σ 6 v1 (j_c1 call 81 [.ref v1, .int v16, .int (j_k 1)] σ (fun x2 τ1 =>
     j_c1 call 133 [.ref v1, .int x2] τ1 (fun x4 τ3 =>
     if v13 = x4 then (if (j_k 0) = 0 ∨ (j_k 0) = 1 then some (some (.int (j_k 0)), τ3) else none)
     else again 367 [some (.ref v0), some (.ref v1), some (.ref v2), some (.int v3), some (.ref v4), some (.ref v5), some (.int v6), some (.int v7), some (.int v8), some (.int v9), some (.int v10), some (.int v11), some (.int v12), some (.int v13), some (.int v14), some (.int v15), some (.int (v16 + (j_k 1)))] [] τ3))))
    else j_is σ v4 v12 (let τ5 : Sto := s_uI σ v4 v12.toNatClampNeg v13;
    j_is τ5 v5 v12 (let τ6 : Sto := s_uI τ5 v5 v12.toNatClampNeg v14;
    again 209 [some (.ref v0), some (.ref v1), some (.ref v2), some (.int v3), some (.ref v4), some (.ref v5), some (.int v6), some (.int v7), some (.int v8), some (.int v9), some (.int v10), some (.int v11), some (.int (v12 + (j_k 1))), none, none, none, none] [] τ6)) := rfl

set_option maxRecDepth 1000000 in
set_option maxHeartbeats 8000000 in
theorem t_137_423 (call : Nat → List Value → Sto → Option Rr) (again : Nat → j_L → List Value → Sto → Option Rr) (σ : Sto) (v0 : Nat) (v1 : Nat) (v2 : Nat) (v3 : Int32) (v4 : Nat) (v5 : Nat) (v6 : Int32) (v7 : Int32) (v8 : Int32) (v9 : Int32) (v10 : Int32) (v11 : Int32) (v12 : Int32) :
    j_seg k_137 h_137 call again 2000 423 [some (.ref v0), some (.ref v1), some (.ref v2), some (.int v3), some (.ref v4), some (.ref v5), some (.int v6), some (.int v7), some (.int v8), some (.int v9), some (.int v10), some (.int v11), some (.int v12), none, none, none, none] [] σ =
    j_oc σ 6 v1 (j_c1 call 108 [.ref v1, .int (j_k 2)] σ (fun x2 τ1 =>
    if x2 = v11 then (j_oc τ1 6 v1 (j_c1 call 88 [.ref v1, .int (j_k 0)] τ1 (fun x4 τ3 =>
     if x4 = v11 then (again 88 [some (.ref v0), some (.ref v1), some (.ref v2), some (.int v3), some (.ref v4), some (.ref v5), some (.int v6), some (.int v7), some (.int (v8 + (j_k 1))), none, none, none, none, none, none, none, none] [] τ3)
     else if (j_k 0) = 0 ∨ (j_k 0) = 1 then some (some (.int (j_k 0)), τ3) else none)))
    else if (j_k 0) = 0 ∨ (j_k 0) = 1 then some (some (.int (j_k 0)), τ1) else none)) := rfl

set_option maxRecDepth 1000000 in
set_option maxHeartbeats 8000000 in
theorem t_137_451 (call : Nat → List Value → Sto → Option Rr) (again : Nat → j_L → List Value → Sto → Option Rr) (σ : Sto) (v0 : Nat) (v1 : Nat) (v2 : Nat) (v3 : Int32) (v4 : Nat) (v5 : Nat) (v6 : Int32) (v7 : Int32) (v8 : Int32) :
    j_seg k_137 h_137 call again 2000 451 [some (.ref v0), some (.ref v1), some (.ref v2), some (.int v3), some (.ref v4), some (.ref v5), some (.int v6), some (.int v7), some (.int v8), none, none, none, none, none, none, none, none] [] σ =
    if 0 < v6 then (if (j_k 10) = 0 then none else
     if (j_k 10) = 0 then none else
     j_ia σ v4 (v7 / (j_k 10)) (
     if (s_I σ v4 (v7 / (j_k 10)).toNatClampNeg) < 0 then (again 506 [some (.ref v0), some (.ref v1), some (.ref v2), some (.int v3), some (.ref v4), some (.ref v5), some (.int v6), some (.int v7), some (.int (v7 / (j_k 10))), none, none, none, none, none, none, none, none] [] σ)
     else j_ia σ v4 (v7 - v7 / (j_k 10) * (j_k 10)) (
     if (s_I σ v4 (v7 - v7 / (j_k 10) * (j_k 10)).toNatClampNeg) < 0 then (again 506 [some (.ref v0), some (.ref v1), some (.ref v2), some (.int v3), some (.ref v4), some (.ref v5), some (.int v6), some (.int v7), some (.int (v7 / (j_k 10))), none, none, none, none, none, none, none, none] [] σ)
     else j_ia σ v4 (v7 / (j_k 10)) (
     j_ia σ v4 (v7 - v7 / (j_k 10) * (j_k 10)) (
     j_c1 call 132 [.ref v2, .int (s_I σ v4 (v7 / (j_k 10)).toNatClampNeg), .int (s_I σ v4 (v7 - v7 / (j_k 10) * (j_k 10)).toNatClampNeg)] σ (fun x2 τ1 =>
     if x2 < (j_k 2) then (if (j_k 0) = 0 ∨ (j_k 0) = 1 then some (some (.int (j_k 0)), τ1) else none)
     else again 506 [some (.ref v0), some (.ref v1), some (.ref v2), some (.int v3), some (.ref v4), some (.ref v5), some (.int v6), some (.int v7), some (.int (v7 / (j_k 10))), none, none, none, none, none, none, none, none] [] τ1))))))
    else again 506 [some (.ref v0), some (.ref v1), some (.ref v2), some (.int v3), some (.ref v4), some (.ref v5), some (.int v6), some (.int v7), some (.int v8), none, none, none, none, none, none, none, none] [] σ := rfl

set_option maxRecDepth 1000000 in
set_option maxHeartbeats 8000000 in
theorem t_137_506 (call : Nat → List Value → Sto → Option Rr) (again : Nat → j_L → List Value → Sto → Option Rr) (σ : Sto) (v0 : Nat) (v1 : Nat) (v2 : Nat) (v3 : Int32) (v4 : Nat) (v5 : Nat) (v6 : Int32) (v7 : Int32) (v8 : Int32) :
    j_seg k_137 h_137 call again 2000 506 [some (.ref v0), some (.ref v1), some (.ref v2), some (.int v3), some (.ref v4), some (.ref v5), some (.int v6), some (.int v7), some (.int v8), none, none, none, none, none, none, none, none] [] σ =
    j_oc σ 6 v1 (j_c1 call 90 [.ref v1, .int (j_k 0)] σ (fun x2 τ1 =>
    if x2 < 0 then (if (j_k 0) = 0 ∨ (j_k 0) = 1 then some (some (.int (j_k 0)), τ1) else none)
    else j_oc τ1 6 v1 (j_c2 call 111 [.ref v1] τ1 (fun x4 τ3 =>
    j_c1 call 134 [.ref v1] τ3 (fun x6 τ5 =>
    if x6 = 0 then (if (j_k 0) = 0 ∨ (j_k 0) = 1 then some (some (.int (j_k 0)), τ5) else none)
    else j_c1 call 135 [.ref v1, .int v3] τ5 (fun x8 τ7 =>
    if x8 = 0 then (if (j_k 0) = 0 ∨ (j_k 0) = 1 then some (some (.int (j_k 0)), τ7) else none)
    else j_c1 call 136 [.ref v1, .int v3] τ7 (fun x10 τ9 =>
    if x10 = 0 then (if (j_k 0) = 0 ∨ (j_k 0) = 1 then some (some (.int (j_k 0)), τ9) else none)
    else j_oc τ9 6 v1 (j_c1 call 91 [.ref v1, .int (j_k 0)] τ9 (fun x12 τ11 =>
    if x12 < 0 then (if (j_k 0) = 0 ∨ (j_k 0) = 1 then some (some (.int (j_k 0)), τ11) else none)
    else j_oc τ11 6 v1 (j_c2 call 111 [.ref v1] τ11 (fun x14 τ13 =>
    if (lg_cmp x14 x4) = 0 then (if (j_k 1) = 0 ∨ (j_k 1) = 1 then some (some (.int (j_k 1)), τ13) else none)
    else if (j_k 0) = 0 ∨ (j_k 0) = 1 then some (some (.int (j_k 0)), τ13) else none))))))))))) := rfl

