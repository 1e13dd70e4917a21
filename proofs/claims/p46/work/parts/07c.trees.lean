/-! ===== what each stretch of each method does (by program wip/gen) ===== -/
-- LastStirredLaw.cell([II)I
set_option maxRecDepth 1000000 in
set_option maxHeartbeats 8000000 in
theorem t_128_0 (call : Nat → List Value → Sto → Option Rr) (again : Nat → j_L → List Value → Sto → Option Rr) (σ : Sto) (v0 : Nat) (v1 : Int32) :
    j_seg k_128 h_128 call again 2000 0 [some (.ref v0), some (.int v1)] [] σ =
    j_len σ v0 (fun n1 =>
    if v1 < n1 then (j_ia σ v0 v1 (
     some (some (.int ((s_I σ v0 v1.toNatClampNeg) &&& (j_ci 3))), σ)))
    else some (some (.int ((((j_k 61) * v1) + (j_k 7)) * (v1 + (j_k 3)))), σ)) := rfl

-- LastStirredLaw.put(LLastStirred;II)I
set_option maxRecDepth 1000000 in
set_option maxHeartbeats 8000000 in
theorem t_129_0 (call : Nat → List Value → Sto → Option Rr) (again : Nat → j_L → List Value → Sto → Option Rr) (σ : Sto) (v0 : Nat) (v1 : Int32) (v2 : Int32) :
    j_seg k_129 h_129 call again 2000 0 [some (.ref v0), some (.int v1), some (.int v2)] [] σ =
    if v1 < 0 then (some (some (.int (j_k (-1000))), σ))
    else j_oc σ 6 v0 (j_c1 call 76 [.ref v0, .int (j_k 3), .int v1, .int v2] σ (fun x2 τ1 =>
    if x2 = (j_k 1032) then (some (some (.int (v1 + (j_k 1))), τ1))
    else some (some (.int (j_k (-1000))), τ1))) := rfl

-- LastStirredLaw.numbers([III[I)V
set_option maxRecDepth 1000000 in
set_option maxHeartbeats 8000000 in
theorem t_130_0 (call : Nat → List Value → Sto → Option Rr) (again : Nat → j_L → List Value → Sto → Option Rr) (σ : Sto) (v0 : Nat) (v1 : Int32) (v2 : Int32) (v3 : Nat) :
    j_seg k_130 h_130 call again 2000 0 [some (.ref v0), some (.int v1), some (.int v2), some (.ref v3), none, none, none, none, none, none, none, none] [] σ =
    j_c1 call 128 [.ref v0, .int v1] σ (fun x2 τ1 =>
    if (j_k 5) = 0 then none else
    j_c1 call 128 [.ref v0, .int v1] τ1 (fun x4 τ3 =>
    if (j_k 8) = 0 then none else
    if (j_k 5) = 0 then none else
    j_is τ3 v3 (j_k 0) (let τ5 : Sto := s_uI τ3 v3 (j_k 0).toNatClampNeg ((j_k 2) + (x2 - x2 / (j_k 5) * (j_k 5)));
    j_is τ5 v3 (j_k 1) (let τ6 : Sto := s_uI τ5 v3 (j_k 1).toNatClampNeg ((j_k 1) + ((x4 / (j_k 8)) - (x4 / (j_k 8)) / (j_k 5) * (j_k 5)));
    again 38 [some (.ref v0), some (.int v1), some (.int v2), some (.ref v3), some (.int ((j_k 2) + (x2 - x2 / (j_k 5) * (j_k 5)))), some (.int ((j_k 1) + ((x4 / (j_k 8)) - (x4 / (j_k 8)) / (j_k 5) * (j_k 5)))), some (.int (j_k 0)), none, none, none, none, none] [] τ6)))) := rfl

set_option maxRecDepth 1000000 in
set_option maxHeartbeats 8000000 in
theorem t_130_38 (call : Nat → List Value → Sto → Option Rr) (again : Nat → j_L → List Value → Sto → Option Rr) (σ : Sto) (v0 : Nat) (v1 : Int32) (v2 : Int32) (v3 : Nat) (v4 : Int32) (v5 : Int32) (v6 : Int32) :
    j_seg k_130 h_130 call again 2000 38 [some (.ref v0), some (.int v1), some (.int v2), some (.ref v3), some (.int v4), some (.int v5), some (.int v6), none, none, none, none, none] [] σ =
    if v6 < (v4 * v5) then (if (j_k 3) = 0 then none else
     j_c1 call 128 [.ref v0, .int ((v1 + (j_k 1)) + (v6 / (j_k 3)))] σ (fun x2 τ1 =>
     if (j_k 3) = 0 then none else
     if (((v6 - v6 / (j_k 3) * (j_k 3)) * (j_k 300)) + (j_k 1)) = 0 then none else
     if (j_k 16) = 0 then none else
     again 76 [some (.ref v0), some (.int v1), some (.int v2), some (.ref v3), some (.int v4), some (.int v5), some (.int v6), some (.int ((x2 / (((v6 - v6 / (j_k 3) * (j_k 3)) * (j_k 300)) + (j_k 1))) - (x2 / (((v6 - v6 / (j_k 3) * (j_k 3)) * (j_k 300)) + (j_k 1))) / (j_k 16) * (j_k 16))), none, none, none, none] [] τ1))
    else j_is σ v3 (j_k 40) (let τ3 : Sto := s_uI σ v3 (j_k 40).toNatClampNeg (j_k 0);
    j_c1 call 128 [.ref v0, .int (v1 + (j_k 12))] τ3 (fun x5 τ4 =>
    if v2 = 0 then none else
    again 155 [some (.ref v0), some (.int v1), some (.int v2), some (.ref v3), some (.int v4), some (.int v5), some (.int ((j_k 1) + (x5 - x5 / v2 * v2))), some (.int (j_k 0)), none, none, none, none] [] τ4)) := rfl

set_option maxRecDepth 1000000 in
set_option maxHeartbeats 8000000 in
theorem t_130_76 (call : Nat → List Value → Sto → Option Rr) (again : Nat → j_L → List Value → Sto → Option Rr) (σ : Sto) (v0 : Nat) (v1 : Int32) (v2 : Int32) (v3 : Nat) (v4 : Int32) (v5 : Int32) (v6 : Int32) (v7 : Int32) :
    j_seg k_130 h_130 call again 2000 76 [some (.ref v0), some (.int v1), some (.int v2), some (.ref v3), some (.int v4), some (.int v5), some (.int v6), some (.int v7), none, none, none, none] [] σ =
    if v7 < (j_k 9) then (j_is σ v3 ((j_k 2) + v6) (let τ1 : Sto := s_uI σ v3 ((j_k 2) + v6).toNatClampNeg (j_k 0);
     again 38 [some (.ref v0), some (.int v1), some (.int v2), some (.ref v3), some (.int v4), some (.int v5), some (.int (v6 + (j_k 1))), none, none, none, none, none] [] τ1))
    else if v7 < (j_k 11) then (j_is σ v3 ((j_k 2) + v6) (let τ2 : Sto := s_uI σ v3 ((j_k 2) + v6).toNatClampNeg (j_k 1);
     again 38 [some (.ref v0), some (.int v1), some (.int v2), some (.ref v3), some (.int v4), some (.int v5), some (.int (v6 + (j_k 1))), none, none, none, none, none] [] τ2))
    else if v7 < (j_k 12) then (j_is σ v3 ((j_k 2) + v6) (let τ3 : Sto := s_uI σ v3 ((j_k 2) + v6).toNatClampNeg (j_k 2);
     again 38 [some (.ref v0), some (.int v1), some (.int v2), some (.ref v3), some (.int v4), some (.int v5), some (.int (v6 + (j_k 1))), none, none, none, none, none] [] τ3))
    else if v7 < (j_k 14) then (j_is σ v3 ((j_k 2) + v6) (let τ4 : Sto := s_uI σ v3 ((j_k 2) + v6).toNatClampNeg (j_k 3);
     again 38 [some (.ref v0), some (.int v1), some (.int v2), some (.ref v3), some (.int v4), some (.int v5), some (.int (v6 + (j_k 1))), none, none, none, none, none] [] τ4))
    else j_is σ v3 ((j_k 2) + v6) (let τ5 : Sto := s_uI σ v3 ((j_k 2) + v6).toNatClampNeg (j_k 4);
    again 38 [some (.ref v0), some (.int v1), some (.int v2), some (.ref v3), some (.int v4), some (.int v5), some (.int (v6 + (j_k 1))), none, none, none, none, none] [] τ5) := rfl

set_option maxRecDepth 1000000 in
set_option maxHeartbeats 8000000 in
theorem t_130_155 (call : Nat → List Value → Sto → Option Rr) (again : Nat → j_L → List Value → Sto → Option Rr) (σ : Sto) (v0 : Nat) (v1 : Int32) (v2 : Int32) (v3 : Nat) (v4 : Int32) (v5 : Int32) (v6 : Int32) (v7 : Int32) :
    j_seg k_130 h_130 call again 2000 155 [some (.ref v0), some (.int v1), some (.int v2), some (.ref v3), some (.int v4), some (.int v5), some (.int v6), some (.int v7), none, none, none, none] [] σ =
    if v7 < v6 then (j_c1 call 128 [.ref v0, .int ((v1 + (j_k 13)) + v7)] σ (fun x2 τ1 =>
     if (j_k 8) = 0 then none else
     if (v4 * v5) = 0 then none else
     again 188 [some (.ref v0), some (.int v1), some (.int v2), some (.ref v3), some (.int v4), some (.int v5), some (.int v6), some (.int v7), some (.int x2), some (.int ((x2 / (j_k 8)) - (x2 / (j_k 8)) / (v4 * v5) * (v4 * v5))), none, none] [] τ1))
    else some (none, σ) := rfl

set_option maxRecDepth 1000000 in
set_option maxHeartbeats 8000000 in
theorem t_130_188 (call : Nat → List Value → Sto → Option Rr) (again : Nat → j_L → List Value → Sto → Option Rr) (σ : Sto) (v0 : Nat) (v1 : Int32) (v2 : Int32) (v3 : Nat) (v4 : Int32) (v5 : Int32) (v6 : Int32) (v7 : Int32) (v8 : Int32) (v9 : Int32) :
    j_seg k_130 h_130 call again 2000 188 [some (.ref v0), some (.int v1), some (.int v2), some (.ref v3), some (.int v4), some (.int v5), some (.int v6), some (.int v7), some (.int v8), some (.int v9), none, none] [] σ =
    j_ia σ v3 ((j_k 2) + v9) (
    if (s_I σ v3 ((j_k 2) + v9).toNatClampNeg) = (j_k 1) then (again 218 [some (.ref v0), some (.int v1), some (.int v2), some (.ref v3), some (.int v4), some (.int v5), some (.int v6), some (.int v7), some (.int v8), some (.int v9), some (.int (j_k 0)), some (.int (j_k 0))] [] σ)
    else j_ia σ v3 ((j_k 2) + v9) (
    if (s_I σ v3 ((j_k 2) + v9).toNatClampNeg) = (j_k 2) then (again 218 [some (.ref v0), some (.int v1), some (.int v2), some (.ref v3), some (.int v4), some (.int v5), some (.int v6), some (.int v7), some (.int v8), some (.int v9), some (.int (j_k 0)), some (.int (j_k 0))] [] σ)
    else again 218 [some (.ref v0), some (.int v1), some (.int v2), some (.ref v3), some (.int v4), some (.int v5), some (.int v6), some (.int v7), some (.int v8), some (.int v9), some (.int (j_k 1)), some (.int (j_k 0))] [] σ)) := rfl

set_option maxRecDepth 1000000 in
set_option maxHeartbeats 8000000 in
theorem t_130_218 (call : Nat → List Value → Sto → Option Rr) (again : Nat → j_L → List Value → Sto → Option Rr) (σ : Sto) (v0 : Nat) (v1 : Int32) (v2 : Int32) (v3 : Nat) (v4 : Int32) (v5 : Int32) (v6 : Int32) (v7 : Int32) (v8 : Int32) (v9 : Int32) (v10 : Int32) (v11 : Int32) :
    j_seg k_130 h_130 call again 2000 218 [some (.ref v0), some (.int v1), some (.int v2), some (.ref v3), some (.int v4), some (.int v5), some (.int v6), some (.int v7), some (.int v8), some (.int v9), some (.int v10), some (.int v11)] [] σ =
    j_ia σ v3 (j_k 40) (
    if v11 < (s_I σ v3 (j_k 40).toNatClampNeg) then (j_ia σ v3 ((j_k 45) + v11) (
     if (s_I σ v3 ((j_k 45) + v11).toNatClampNeg) = v9 then (again 218 [some (.ref v0), some (.int v1), some (.int v2), some (.ref v3), some (.int v4), some (.int v5), some (.int v6), some (.int v7), some (.int v8), some (.int v9), some (.int (v10 &&& (j_k 0))), some (.int (v11 + (j_k 1)))] [] σ)
     else again 218 [some (.ref v0), some (.int v1), some (.int v2), some (.ref v3), some (.int v4), some (.int v5), some (.int v6), some (.int v7), some (.int v8), some (.int v9), some (.int (v10 &&& (j_k 1))), some (.int (v11 + (j_k 1)))] [] σ))
    else again 255 [some (.ref v0), some (.int v1), some (.int v2), some (.ref v3), some (.int v4), some (.int v5), some (.int v6), some (.int v7), some (.int v8), some (.int v9), some (.int v10), some (.int v11)] [] σ) := rfl

set_option maxRecDepth 1000000 in
set_option maxHeartbeats 8000000 in
theorem t_130_255 (call : Nat → List Value → Sto → Option Rr) (again : Nat → j_L → List Value → Sto → Option Rr) (σ : Sto) (v0 : Nat) (v1 : Int32) (v2 : Int32) (v3 : Nat) (v4 : Int32) (v5 : Int32) (v6 : Int32) (v7 : Int32) (v8 : Int32) (v9 : Int32) (v10 : Int32) (v11 : Int32) :
    j_seg k_130 h_130 call again 2000 255 [some (.ref v0), some (.int v1), some (.int v2), some (.ref v3), some (.int v4), some (.int v5), some (.int v6), some (.int v7), some (.int v8), some (.int v9), some (.int v10), some (.int v11)] [] σ =
    if v10 = 0 then (again 306 [some (.ref v0), some (.int v1), some (.int v2), some (.ref v3), some (.int v4), some (.int v5), some (.int v6), some (.int v7), some (.int v8), some (.int v9), some (.int v10), some (.int v11)] [] σ)
    else j_ia σ v3 (j_k 40) (
    if (j_k 8) = 0 then none else
    if (j_k 5) < (v8 - v8 / (j_k 8) * (j_k 8)) then (j_is σ v3 ((j_k 41) + (s_I σ v3 (j_k 40).toNatClampNeg)) (let τ1 : Sto := s_uI σ v3 ((j_k 41) + (s_I σ v3 (j_k 40).toNatClampNeg)).toNatClampNeg (j_k 0);
     j_ia τ1 v3 (j_k 40) (
     j_is τ1 v3 ((j_k 45) + (s_I τ1 v3 (j_k 40).toNatClampNeg)) (let τ2 : Sto := s_uI τ1 v3 ((j_k 45) + (s_I τ1 v3 (j_k 40).toNatClampNeg)).toNatClampNeg v9;
     j_ia τ2 v3 (j_k 40) (
     j_is τ2 v3 (j_k 40) (let τ3 : Sto := s_uI τ2 v3 (j_k 40).toNatClampNeg ((s_I τ2 v3 (j_k 40).toNatClampNeg) + (j_k 1));
     again 306 [some (.ref v0), some (.int v1), some (.int v2), some (.ref v3), some (.int v4), some (.int v5), some (.int v6), some (.int v7), some (.int v8), some (.int v9), some (.int v10), some (.int v11)] [] τ3))))))
    else if (j_k 8) = 0 then none else
    j_is σ v3 ((j_k 41) + (s_I σ v3 (j_k 40).toNatClampNeg)) (let τ4 : Sto := s_uI σ v3 ((j_k 41) + (s_I σ v3 (j_k 40).toNatClampNeg)).toNatClampNeg (v8 - v8 / (j_k 8) * (j_k 8));
    j_ia τ4 v3 (j_k 40) (
    j_is τ4 v3 ((j_k 45) + (s_I τ4 v3 (j_k 40).toNatClampNeg)) (let τ5 : Sto := s_uI τ4 v3 ((j_k 45) + (s_I τ4 v3 (j_k 40).toNatClampNeg)).toNatClampNeg v9;
    j_ia τ5 v3 (j_k 40) (
    j_is τ5 v3 (j_k 40) (let τ6 : Sto := s_uI τ5 v3 (j_k 40).toNatClampNeg ((s_I τ5 v3 (j_k 40).toNatClampNeg) + (j_k 1));
    again 306 [some (.ref v0), some (.int v1), some (.int v2), some (.ref v3), some (.int v4), some (.int v5), some (.int v6), some (.int v7), some (.int v8), some (.int v9), some (.int v10), some (.int v11)] [] τ6)))))) := rfl

set_option maxRecDepth 1000000 in
set_option maxHeartbeats 8000000 in
theorem t_130_306 (call : Nat → List Value → Sto → Option Rr) (again : Nat → j_L → List Value → Sto → Option Rr) (σ : Sto) (v0 : Nat) (v1 : Int32) (v2 : Int32) (v3 : Nat) (v4 : Int32) (v5 : Int32) (v6 : Int32) (v7 : Int32) (v8 : Int32) (v9 : Int32) (v10 : Int32) (v11 : Int32) :
    j_seg k_130 h_130 call again 2000 306 [some (.ref v0), some (.int v1), some (.int v2), some (.ref v3), some (.int v4), some (.int v5), some (.int v6), some (.int v7), some (.int v8), some (.int v9), some (.int v10), some (.int v11)] [] σ =
    again 155 [some (.ref v0), some (.int v1), some (.int v2), some (.ref v3), some (.int v4), some (.int v5), some (.int v6), some (.int (v7 + (j_k 1))), none, none, none, none] [] σ := rfl

-- LastStirredLaw.ground(LLastStirred;[I)Z
set_option maxRecDepth 1000000 in
set_option maxHeartbeats 8000000 in
theorem t_131_0 (call : Nat → List Value → Sto → Option Rr) (again : Nat → j_L → List Value → Sto → Option Rr) (σ : Sto) (v0 : Nat) (v1 : Nat) :
    j_seg k_131 h_131 call again 2000 0 [some (.ref v0), some (.ref v1), none, none, none] [] σ =
    j_oc σ 6 v0 (j_c1 call 75 [.ref v0, .int (j_k 3), .int (j_k 80)] σ (fun x2 τ1 =>
    if x2 = (j_k 80) then (j_c1 call 129 [.ref v0, .int (j_k 1), .int (j_k 103)] τ1 (fun x4 τ3 =>
     j_ia τ3 v1 (j_k 0) (
     j_c1 call 129 [.ref v0, .int x4, .int ((j_k 48) + (s_I τ3 v1 (j_k 0).toNatClampNeg))] τ3 (fun x6 τ5 =>
     j_ia τ5 v1 (j_k 1) (
     j_c1 call 129 [.ref v0, .int x6, .int ((j_k 48) + (s_I τ5 v1 (j_k 1).toNatClampNeg))] τ5 (fun x8 τ7 =>
     again 44 [some (.ref v0), some (.ref v1), some (.int x8), some (.int (j_k 0)), none] [] τ7))))))
    else if (j_k 0) = 0 ∨ (j_k 0) = 1 then some (some (.int (j_k 0)), τ1) else none)) := rfl

set_option maxRecDepth 1000000 in
set_option maxHeartbeats 8000000 in
theorem t_131_44 (call : Nat → List Value → Sto → Option Rr) (again : Nat → j_L → List Value → Sto → Option Rr) (σ : Sto) (v0 : Nat) (v1 : Nat) (v2 : Int32) (v3 : Int32) :
    j_seg k_131 h_131 call again 2000 44 [some (.ref v0), some (.ref v1), some (.int v2), some (.int v3), none] [] σ =
    j_ia σ v1 (j_k 0) (
    j_ia σ v1 (j_k 1) (
    if v3 < ((s_I σ v1 (j_k 0).toNatClampNeg) * (s_I σ v1 (j_k 1).toNatClampNeg)) then (j_ia σ v1 ((j_k 2) + v3) (
     if (s_I σ v1 ((j_k 2) + v3).toNatClampNeg) = 0 then (j_c1 call 129 [.ref v0, .int v2, .int (j_k 46)] σ (fun x2 τ1 =>
      again 113 [some (.ref v0), some (.ref v1), some (.int x2), some (.int v3), some (.int (s_I σ v1 ((j_k 2) + v3).toNatClampNeg))] [] τ1))
     else if (s_I σ v1 ((j_k 2) + v3).toNatClampNeg) = (j_k 1) then (j_c1 call 129 [.ref v0, .int v2, .int (j_k 35)] σ (fun x4 τ3 =>
      again 113 [some (.ref v0), some (.ref v1), some (.int x4), some (.int v3), some (.int (s_I σ v1 ((j_k 2) + v3).toNatClampNeg))] [] τ3))
     else if (s_I σ v1 ((j_k 2) + v3).toNatClampNeg) = (j_k 2) then (j_c1 call 129 [.ref v0, .int v2, .int (j_k 126)] σ (fun x6 τ5 =>
      again 113 [some (.ref v0), some (.ref v1), some (.int x6), some (.int v3), some (.int (s_I σ v1 ((j_k 2) + v3).toNatClampNeg))] [] τ5))
     else if (s_I σ v1 ((j_k 2) + v3).toNatClampNeg) = (j_k 3) then (j_c1 call 129 [.ref v0, .int v2, .int (j_k 111)] σ (fun x8 τ7 =>
      again 113 [some (.ref v0), some (.ref v1), some (.int x8), some (.int v3), some (.int (s_I σ v1 ((j_k 2) + v3).toNatClampNeg))] [] τ7))
     else j_c1 call 129 [.ref v0, .int v2, .int (j_k 61)] σ (fun x10 τ9 =>
     again 113 [some (.ref v0), some (.ref v1), some (.int x10), some (.int v3), some (.int (s_I σ v1 ((j_k 2) + v3).toNatClampNeg))] [] τ9)))
    else again 121 [some (.ref v0), some (.ref v1), some (.int v2), some (.int (j_k 0)), none] [] σ)) := rfl

set_option maxRecDepth 1000000 in
set_option maxHeartbeats 8000000 in
theorem t_131_113 (call : Nat → List Value → Sto → Option Rr) (again : Nat → j_L → List Value → Sto → Option Rr) (σ : Sto) (v0 : Nat) (v1 : Nat) (v2 : Int32) (v3 : Int32) (v4 : Int32) :
    j_seg k_131 h_131 call again 2000 113 [some (.ref v0), some (.ref v1), some (.int v2), some (.int v3), some (.int v4)] [] σ =
    again 44 [some (.ref v0), some (.ref v1), some (.int v2), some (.int (v3 + (j_k 1))), none] [] σ := rfl

set_option maxRecDepth 1000000 in
set_option maxHeartbeats 8000000 in
theorem t_131_121 (call : Nat → List Value → Sto → Option Rr) (again : Nat → j_L → List Value → Sto → Option Rr) (σ : Sto) (v0 : Nat) (v1 : Nat) (v2 : Int32) (v3 : Int32) :
    j_seg k_131 h_131 call again 2000 121 [some (.ref v0), some (.ref v1), some (.int v2), some (.int v3), none] [] σ =
    j_ia σ v1 (j_k 40) (
    if v3 < (s_I σ v1 (j_k 40).toNatClampNeg) then (j_ia σ v1 ((j_k 41) + v3) (
     if (s_I σ v1 ((j_k 41) + v3).toNatClampNeg) = 0 then (j_c1 call 129 [.ref v0, .int v2, .int (j_k 98)] σ (fun x2 τ1 =>
      again 199 [some (.ref v0), some (.ref v1), some (.int x2), some (.int v3), some (.int (s_I σ v1 ((j_k 41) + v3).toNatClampNeg))] [] τ1))
     else if (s_I σ v1 ((j_k 41) + v3).toNatClampNeg) = (j_k 1) then (j_c1 call 129 [.ref v0, .int v2, .int (j_k 115)] σ (fun x4 τ3 =>
      again 199 [some (.ref v0), some (.ref v1), some (.int x4), some (.int v3), some (.int (s_I σ v1 ((j_k 41) + v3).toNatClampNeg))] [] τ3))
     else if (s_I σ v1 ((j_k 41) + v3).toNatClampNeg) = (j_k 2) then (j_c1 call 129 [.ref v0, .int v2, .int (j_k 108)] σ (fun x6 τ5 =>
      again 199 [some (.ref v0), some (.ref v1), some (.int x6), some (.int v3), some (.int (s_I σ v1 ((j_k 41) + v3).toNatClampNeg))] [] τ5))
     else if (s_I σ v1 ((j_k 41) + v3).toNatClampNeg) = (j_k 3) then (j_c1 call 129 [.ref v0, .int v2, .int (j_k 99)] σ (fun x8 τ7 =>
      again 199 [some (.ref v0), some (.ref v1), some (.int x8), some (.int v3), some (.int (s_I σ v1 ((j_k 41) + v3).toNatClampNeg))] [] τ7))
     else if (s_I σ v1 ((j_k 41) + v3).toNatClampNeg) = (j_k 4) then (j_c1 call 129 [.ref v0, .int v2, .int (j_k 109)] σ (fun x10 τ9 =>
      again 199 [some (.ref v0), some (.ref v1), some (.int x10), some (.int v3), some (.int (s_I σ v1 ((j_k 41) + v3).toNatClampNeg))] [] τ9))
     else j_c1 call 129 [.ref v0, .int v2, .int (j_k 116)] σ (fun x12 τ11 =>
     again 199 [some (.ref v0), some (.ref v1), some (.int x12), some (.int v3), some (.int (s_I σ v1 ((j_k 41) + v3).toNatClampNeg))] [] τ11)))
    else again 241 [some (.ref v0), some (.ref v1), some (.int v2), some (.int v3), none] [] σ) := rfl

set_option maxRecDepth 1000000 in
set_option maxHeartbeats 8000000 in
theorem t_131_199 (call : Nat → List Value → Sto → Option Rr) (again : Nat → j_L → List Value → Sto → Option Rr) (σ : Sto) (v0 : Nat) (v1 : Nat) (v2 : Int32) (v3 : Int32) (v4 : Int32) :
    j_seg k_131 h_131 call again 2000 199 [some (.ref v0), some (.ref v1), some (.int v2), some (.int v3), some (.int v4)] [] σ =
    j_ia σ v1 ((j_k 45) + v3) (
    j_ia σ v1 (j_k 0) (
    if (s_I σ v1 (j_k 0).toNatClampNeg) = 0 then none else
    j_c1 call 129 [.ref v0, .int v2, .int ((j_k 48) + ((s_I σ v1 ((j_k 45) + v3).toNatClampNeg) - (s_I σ v1 ((j_k 45) + v3).toNatClampNeg) / (s_I σ v1 (j_k 0).toNatClampNeg) * (s_I σ v1 (j_k 0).toNatClampNeg)))] σ (fun x2 τ1 =>
    j_ia τ1 v1 ((j_k 45) + v3) (
    j_ia τ1 v1 (j_k 0) (
    if (s_I τ1 v1 (j_k 0).toNatClampNeg) = 0 then none else
    j_c1 call 129 [.ref v0, .int x2, .int ((j_k 48) + ((s_I τ1 v1 ((j_k 45) + v3).toNatClampNeg) / (s_I τ1 v1 (j_k 0).toNatClampNeg)))] τ1 (fun x4 τ3 =>
    again 121 [some (.ref v0), some (.ref v1), some (.int x4), some (.int (v3 + (j_k 1))), none] [] τ3)))))) := rfl

set_option maxRecDepth 1000000 in
set_option maxHeartbeats 8000000 in
theorem t_131_241 (call : Nat → List Value → Sto → Option Rr) (again : Nat → j_L → List Value → Sto → Option Rr) (σ : Sto) (v0 : Nat) (v1 : Nat) (v2 : Int32) (v3 : Int32) :
    j_seg k_131 h_131 call again 2000 241 [some (.ref v0), some (.ref v1), some (.int v2), some (.int v3), none] [] σ =
    if 0 < v2 then (j_oc σ 6 v0 (j_c1 call 77 [.ref v0, .int (j_k 3)] σ (fun x2 τ1 =>
     if x2 = (j_k (-9)) then (j_oc τ1 6 v0 (j_c1 call 78 [.ref v0, .int (j_k 3)] τ1 (fun x4 τ3 =>
      j_ia τ3 v1 (j_k 40) (
      if x4 = (s_I τ3 v1 (j_k 40).toNatClampNeg) then (if (j_k 1) = 0 ∨ (j_k 1) = 1 then some (some (.int (j_k 1)), τ3) else none)
      else if (j_k 0) = 0 ∨ (j_k 0) = 1 then some (some (.int (j_k 0)), τ3) else none))))
     else if (j_k 0) = 0 ∨ (j_k 0) = 1 then some (some (.int (j_k 0)), τ1) else none)))
    else if (j_k 0) = 0 ∨ (j_k 0) = 1 then some (some (.int (j_k 0)), σ) else none := rfl

-- LastStirredLaw.off([III)I
set_option maxRecDepth 1000000 in
set_option maxHeartbeats 8000000 in
theorem t_132_0 (call : Nat → List Value → Sto → Option Rr) (again : Nat → j_L → List Value → Sto → Option Rr) (σ : Sto) (v0 : Nat) (v1 : Int32) (v2 : Int32) :
    j_seg k_132 h_132 call again 2000 0 [some (.ref v0), some (.int v1), some (.int v2), none, none] [] σ =
    j_ia σ v0 (j_k 0) (
    if (s_I σ v0 (j_k 0).toNatClampNeg) = 0 then none else
    j_ia σ v0 (j_k 0) (
    if (s_I σ v0 (j_k 0).toNatClampNeg) = 0 then none else
    j_ia σ v0 (j_k 0) (
    if (s_I σ v0 (j_k 0).toNatClampNeg) = 0 then none else
    j_ia σ v0 (j_k 0) (
    if (s_I σ v0 (j_k 0).toNatClampNeg) = 0 then none else
    if ((v1 - v1 / (s_I σ v0 (j_k 0).toNatClampNeg) * (s_I σ v0 (j_k 0).toNatClampNeg)) - (v2 - v2 / (s_I σ v0 (j_k 0).toNatClampNeg) * (s_I σ v0 (j_k 0).toNatClampNeg))) < 0 then (if ((v1 / (s_I σ v0 (j_k 0).toNatClampNeg)) - (v2 / (s_I σ v0 (j_k 0).toNatClampNeg))) < 0 then (some (some (.int ((-((v1 - v1 / (s_I σ v0 (j_k 0).toNatClampNeg) * (s_I σ v0 (j_k 0).toNatClampNeg)) - (v2 - v2 / (s_I σ v0 (j_k 0).toNatClampNeg) * (s_I σ v0 (j_k 0).toNatClampNeg)))) + (-((v1 / (s_I σ v0 (j_k 0).toNatClampNeg)) - (v2 / (s_I σ v0 (j_k 0).toNatClampNeg)))))), σ))
     else some (some (.int ((-((v1 - v1 / (s_I σ v0 (j_k 0).toNatClampNeg) * (s_I σ v0 (j_k 0).toNatClampNeg)) - (v2 - v2 / (s_I σ v0 (j_k 0).toNatClampNeg) * (s_I σ v0 (j_k 0).toNatClampNeg)))) + ((v1 / (s_I σ v0 (j_k 0).toNatClampNeg)) - (v2 / (s_I σ v0 (j_k 0).toNatClampNeg))))), σ))
    else if ((v1 / (s_I σ v0 (j_k 0).toNatClampNeg)) - (v2 / (s_I σ v0 (j_k 0).toNatClampNeg))) < 0 then (some (some (.int (((v1 - v1 / (s_I σ v0 (j_k 0).toNatClampNeg) * (s_I σ v0 (j_k 0).toNatClampNeg)) - (v2 - v2 / (s_I σ v0 (j_k 0).toNatClampNeg) * (s_I σ v0 (j_k 0).toNatClampNeg))) + (-((v1 / (s_I σ v0 (j_k 0).toNatClampNeg)) - (v2 / (s_I σ v0 (j_k 0).toNatClampNeg)))))), σ))
    else some (some (.int (((v1 - v1 / (s_I σ v0 (j_k 0).toNatClampNeg) * (s_I σ v0 (j_k 0).toNatClampNeg)) - (v2 - v2 / (s_I σ v0 (j_k 0).toNatClampNeg) * (s_I σ v0 (j_k 0).toNatClampNeg))) + ((v1 / (s_I σ v0 (j_k 0).toNatClampNeg)) - (v2 / (s_I σ v0 (j_k 0).toNatClampNeg))))), σ))))) := rfl

-- LastStirredLaw.tells(LLastStirred;I)I
set_option maxRecDepth 1000000 in
set_option maxHeartbeats 8000000 in
theorem t_133_0 (call : Nat → List Value → Sto → Option Rr) (again : Nat → j_L → List Value → Sto → Option Rr) (σ : Sto) (v0 : Nat) (v1 : Int32) :
    j_seg k_133 h_133 call again 2000 0 [some (.ref v0), some (.int v1)] [] σ =
    if v1 = (j_k 1) then (j_oc σ 6 v0 (j_c1 call 105 [.ref v0] σ (fun x2 τ1 =>
     some (some (.int x2), τ1))))
    else some (some (.int (j_k (-7777))), σ) := rfl

-- LastStirredLaw.rings(LLastStirred;)Z
set_option maxRecDepth 1000000 in
set_option maxHeartbeats 8000000 in
theorem t_134_0 (call : Nat → List Value → Sto → Option Rr) (again : Nat → j_L → List Value → Sto → Option Rr) (σ : Sto) (v0 : Nat) :
    j_seg k_134 h_134 call again 2000 0 [some (.ref v0), none, none, none, none, none, none, none, none] [] σ =
    j_oc σ 6 v0 (j_c1 call 87 [.ref v0] σ (fun x2 τ1 =>
    j_oc τ1 6 v0 (j_c1 call 105 [.ref v0] τ1 (fun x4 τ3 =>
    if x2 = (j_k (-9)) then (if (j_k 1) = 0 ∨ (j_k 1) = 1 then some (some (.int (j_k 1)), τ3) else none)
    else if x2 < x4 then (if (j_k 0) = 0 ∨ (j_k 0) = 1 then some (some (.int (j_k 0)), τ3) else none)
    else if x4 < (j_k 1) then (if (j_k 0) = 0 ∨ (j_k 0) = 1 then some (some (.int (j_k 0)), τ3) else none)
    else if (j_k 2) = 0 then none else
    if (x4 - x4 / (j_k 2) * (j_k 2)) = 0 then (if (j_k 200) < x2 then (if (j_k 0) = 0 ∨ (j_k 0) = 1 then some (some (.int (j_k 0)), τ3) else none)
     else again 43 [some (.ref v0), some (.int x2), some (.int x4), none, none, none, none, none, none] [] τ3)
    else if (j_k 0) = 0 ∨ (j_k 0) = 1 then some (some (.int (j_k 0)), τ3) else none)))) := rfl

set_option maxRecDepth 1000000 in
set_option maxHeartbeats 8000000 in
theorem t_134_43 (call : Nat → List Value → Sto → Option Rr) (again : Nat → j_L → List Value → Sto → Option Rr) (σ : Sto) (v0 : Nat) (v1 : Int32) (v2 : Int32) :
    j_seg k_134 h_134 call again 2000 43 [some (.ref v0), some (.int v1), some (.int v2), none, none, none, none, none, none] [] σ =
    again 47 [some (.ref v0), some (.int v1), some (.int v2), some (.int (v1 - v2)), none, none, none, none, none] [] σ := rfl

set_option maxRecDepth 1000000 in
set_option maxHeartbeats 8000000 in
theorem t_134_47 (call : Nat → List Value → Sto → Option Rr) (again : Nat → j_L → List Value → Sto → Option Rr) (σ : Sto) (v0 : Nat) (v1 : Int32) (v2 : Int32) (v3 : Int32) :
    j_seg k_134 h_134 call again 2000 47 [some (.ref v0), some (.int v1), some (.int v2), some (.int v3), none, none, none, none, none] [] σ =
    if 0 < v3 then (if (j_k 40) < v3 then (again 65 [some (.ref v0), some (.int v1), some (.int v2), some (.int v3), some (.int (j_k 40)), none, none, none, none] [] σ)
     else again 65 [some (.ref v0), some (.int v1), some (.int v2), some (.int v3), some (.int v3), none, none, none, none] [] σ)
    else again 84 [some (.ref v0), some (.int v1), some (.int v2), some (.int v3), none, none, none, none, none] [] σ := rfl

set_option maxRecDepth 1000000 in
set_option maxHeartbeats 8000000 in
theorem t_134_65 (call : Nat → List Value → Sto → Option Rr) (again : Nat → j_L → List Value → Sto → Option Rr) (σ : Sto) (v0 : Nat) (v1 : Int32) (v2 : Int32) (v3 : Int32) (v4 : Int32) :
    j_seg k_134 h_134 call again 2000 65 [some (.ref v0), some (.int v1), some (.int v2), some (.int v3), some (.int v4), none, none, none, none] [] σ =
    j_oc σ 6 v0 (j_c1 call 85 [.ref v0, .int v4] σ (fun x2 τ1 =>
    if x2 < 0 then (if (j_k 0) = 0 ∨ (j_k 0) = 1 then some (some (.int (j_k 0)), τ1) else none)
    else again 47 [some (.ref v0), some (.int v1), some (.int v2), some (.int (v3 - v4)), none, none, none, none, none] [] τ1)) := rfl

set_option maxRecDepth 1000000 in
set_option maxHeartbeats 8000000 in
theorem t_134_84 (call : Nat → List Value → Sto → Option Rr) (again : Nat → j_L → List Value → Sto → Option Rr) (σ : Sto) (v0 : Nat) (v1 : Int32) (v2 : Int32) (v3 : Int32) :
    j_seg k_134 h_134 call again 2000 84 [some (.ref v0), some (.int v1), some (.int v2), some (.int v3), none, none, none, none, none] [] σ =
    j_oc σ 6 v0 (j_c1 call 88 [.ref v0, .int (j_k 1)] σ (fun x2 τ1 =>
    j_oc τ1 6 v0 (j_c1 call 83 [.ref v0] τ1 (fun x4 τ3 =>
    j_oc τ3 6 v0 (j_c1 call 105 [.ref v0] τ3 (fun x6 τ5 =>
    again 105 [some (.ref v0), some (.int v1), some (.int v2), some (.int v2), some (.int x2), some (.int x4), some (.int x6), none, none] [] τ5)))))) := rfl

set_option maxRecDepth 1000000 in
set_option maxHeartbeats 8000000 in
theorem t_134_105 (call : Nat → List Value → Sto → Option Rr) (again : Nat → j_L → List Value → Sto → Option Rr) (σ : Sto) (v0 : Nat) (v1 : Int32) (v2 : Int32) (v3 : Int32) (v4 : Int32) (v5 : Int32) (v6 : Int32) :
    j_seg k_134 h_134 call again 2000 105 [some (.ref v0), some (.int v1), some (.int v2), some (.int v3), some (.int v4), some (.int v5), some (.int v6), none, none] [] σ =
    if 0 < v3 then (if (j_k 40) < v3 then (again 123 [some (.ref v0), some (.int v1), some (.int v2), some (.int v3), some (.int v4), some (.int v5), some (.int v6), some (.int (j_k 40)), none] [] σ)
     else again 123 [some (.ref v0), some (.int v1), some (.int v2), some (.int v3), some (.int v4), some (.int v5), some (.int v6), some (.int v3), none] [] σ)
    else again 142 [some (.ref v0), some (.int v1), some (.int v2), some (.int v3), some (.int v4), some (.int v5), some (.int v6), none, none] [] σ := rfl

set_option maxRecDepth 1000000 in
set_option maxHeartbeats 8000000 in
theorem t_134_123 (call : Nat → List Value → Sto → Option Rr) (again : Nat → j_L → List Value → Sto → Option Rr) (σ : Sto) (v0 : Nat) (v1 : Int32) (v2 : Int32) (v3 : Int32) (v4 : Int32) (v5 : Int32) (v6 : Int32) (v7 : Int32) :
    j_seg k_134 h_134 call again 2000 123 [some (.ref v0), some (.int v1), some (.int v2), some (.int v3), some (.int v4), some (.int v5), some (.int v6), some (.int v7), none] [] σ =
    j_oc σ 6 v0 (j_c1 call 85 [.ref v0, .int v7] σ (fun x2 τ1 =>
    if x2 < 0 then (if (j_k 0) = 0 ∨ (j_k 0) = 1 then some (some (.int (j_k 0)), τ1) else none)
    else again 105 [some (.ref v0), some (.int v1), some (.int v2), some (.int (v3 - v7)), some (.int v4), some (.int v5), some (.int v6), none, none] [] τ1)) := rfl

set_option maxRecDepth 1000000 in
set_option maxHeartbeats 8000000 in
theorem t_134_142 (call : Nat → List Value → Sto → Option Rr) (again : Nat → j_L → List Value → Sto → Option Rr) (σ : Sto) (v0 : Nat) (v1 : Int32) (v2 : Int32) (v3 : Int32) (v4 : Int32) (v5 : Int32) (v6 : Int32) :
    j_seg k_134 h_134 call again 2000 142 [some (.ref v0), some (.int v1), some (.int v2), some (.int v3), some (.int v4), some (.int v5), some (.int v6), none, none] [] σ =
    j_oc σ 6 v0 (j_c1 call 88 [.ref v0, .int (j_k 2)] σ (fun x2 τ1 =>
    if x2 = v4 then (j_oc τ1 6 v0 (j_c1 call 83 [.ref v0] τ1 (fun x4 τ3 =>
     if x4 = v5 then (j_oc τ3 6 v0 (j_c1 call 105 [.ref v0] τ3 (fun x6 τ5 =>
      if x6 = v6 then (again 172 [some (.ref v0), some (.int v1), some (.int v2), some (.int v3), some (.int v4), some (.int v5), some (.int v6), none, none] [] τ5)
      else if (j_k 0) = 0 ∨ (j_k 0) = 1 then some (some (.int (j_k 0)), τ5) else none)))
     else if (j_k 0) = 0 ∨ (j_k 0) = 1 then some (some (.int (j_k 0)), τ3) else none)))
    else if (j_k 0) = 0 ∨ (j_k 0) = 1 then some (some (.int (j_k 0)), τ1) else none)) := rfl

set_option maxRecDepth 1000000 in
set_option maxHeartbeats 8000000 in
theorem t_134_172 (call : Nat → List Value → Sto → Option Rr) (again : Nat → j_L → List Value → Sto → Option Rr) (σ : Sto) (v0 : Nat) (v1 : Int32) (v2 : Int32) (v3 : Int32) (v4 : Int32) (v5 : Int32) (v6 : Int32) :
    j_seg k_134 h_134 call again 2000 172 [some (.ref v0), some (.int v1), some (.int v2), some (.int v3), some (.int v4), some (.int v5), some (.int v6), none, none] [] σ =
    again 175 [some (.ref v0), some (.int v1), some (.int v2), some (.int v3), some (.int v4), some (.int v5), some (.int v6), some (.int (j_k 0)), none] [] σ := rfl

set_option maxRecDepth 1000000 in
set_option maxHeartbeats 8000000 in
theorem t_134_175 (call : Nat → List Value → Sto → Option Rr) (again : Nat → j_L → List Value → Sto → Option Rr) (σ : Sto) (v0 : Nat) (v1 : Int32) (v2 : Int32) (v3 : Int32) (v4 : Int32) (v5 : Int32) (v6 : Int32) (v7 : Int32) :
    j_seg k_134 h_134 call again 2000 175 [some (.ref v0), some (.int v1), some (.int v2), some (.int v3), some (.int v4), some (.int v5), some (.int v6), some (.int v7), none] [] σ =
    j_oc σ 6 v0 (j_c1 call 108 [.ref v0, .int (j_k 1)] σ (fun x2 τ1 =>
    if v7 < x2 then (j_oc τ1 6 v0 (j_c1 call 71 [.ref v0, .int (j_k 1), .int v7] τ1 (fun x4 τ3 =>
     if x4 = (j_k 1) then (j_oc τ3 6 v0 (j_c1 call 105 [.ref v0] τ3 (fun x6 τ5 =>
      j_oc τ5 6 v0 (j_c1 call 71 [.ref v0, .int (j_k 2), .int v7] τ5 (fun x8 τ7 =>
      if x8 = (j_k 1) then (j_oc τ7 6 v0 (j_c1 call 105 [.ref v0] τ7 (fun x10 τ9 =>
       if x10 = x6 then (again 175 [some (.ref v0), some (.int v1), some (.int v2), some (.int v3), some (.int v4), some (.int v5), some (.int v6), some (.int (v7 + (j_k 1))), none] [] τ9)
       else if (j_k 0) = 0 ∨ (j_k 0) = 1 then some (some (.int (j_k 0)), τ9) else none)))
      else if (j_k 0) = 0 ∨ (j_k 0) = 1 then some (some (.int (j_k 0)), τ7) else none)))))
     else if (j_k 0) = 0 ∨ (j_k 0) = 1 then some (some (.int (j_k 0)), τ3) else none)))
    else again 232 [some (.ref v0), some (.int v1), some (.int v2), some (.int v3), some (.int v4), some (.int v5), some (.int v6), some (.int v7), none] [] τ1)) := rfl

set_option maxRecDepth 1000000 in
set_option maxHeartbeats 8000000 in
theorem t_134_232 (call : Nat → List Value → Sto → Option Rr) (again : Nat → j_L → List Value → Sto → Option Rr) (σ : Sto) (v0 : Nat) (v1 : Int32) (v2 : Int32) (v3 : Int32) (v4 : Int32) (v5 : Int32) (v6 : Int32) (v7 : Int32) :
    j_seg k_134 h_134 call again 2000 232 [some (.ref v0), some (.int v1), some (.int v2), some (.int v3), some (.int v4), some (.int v5), some (.int v6), some (.int v7), none] [] σ =
    j_oc σ 6 v0 (j_c1 call 72 [.ref v0, .int (j_k 1)] σ (fun x2 τ1 =>
    if x2 = (j_k 1) then (j_oc τ1 6 v0 (j_c1 call 72 [.ref v0, .int (j_k 2)] τ1 (fun x4 τ3 =>
     if x4 = (j_k 1) then (j_oc τ3 6 v0 (j_c1 call 91 [.ref v0, .int (j_k 0)] τ3 (fun x6 τ5 =>
      if x6 < 0 then (if (j_k 0) = 0 ∨ (j_k 0) = 1 then some (some (.int (j_k 0)), τ5) else none)
      else if (j_k 1) = 0 ∨ (j_k 1) = 1 then some (some (.int (j_k 1)), τ5) else none)))
     else if (j_k 0) = 0 ∨ (j_k 0) = 1 then some (some (.int (j_k 0)), τ3) else none)))
    else if (j_k 0) = 0 ∨ (j_k 0) = 1 then some (some (.int (j_k 0)), τ1) else none)) := rfl

-- LastStirredLaw.drives(LLastStirred;I)Z
set_option maxRecDepth 1000000 in
set_option maxHeartbeats 8000000 in
theorem t_135_0 (call : Nat → List Value → Sto → Option Rr) (again : Nat → j_L → List Value → Sto → Option Rr) (σ : Sto) (v0 : Nat) (v1 : Int32) :
    j_seg k_135 h_135 call again 2000 0 [some (.ref v0), some (.int v1), none, none, none, none, none, none, none, none] [] σ =
    j_oc σ 6 v0 (j_c1 call 92 [.ref v0] σ (fun x2 τ1 =>
    j_oc τ1 6 v0 (j_c1 call 105 [.ref v0] τ1 (fun x4 τ3 =>
    if x2 < 0 then (again 161 [some (.ref v0), some (.int v1), some (.int x2), some (.int x4), none, none, none, none, none, none] [] τ3)
    else again 19 [some (.ref v0), some (.int v1), some (.int x2), some (.int x4), some (.int (x2 - (j_k 1))), none, none, none, none, none] [] τ3)))) := rfl

set_option maxRecDepth 1000000 in
set_option maxHeartbeats 8000000 in
theorem t_135_19 (call : Nat → List Value → Sto → Option Rr) (again : Nat → j_L → List Value → Sto → Option Rr) (σ : Sto) (v0 : Nat) (v1 : Int32) (v2 : Int32) (v3 : Int32) (v4 : Int32) :
    j_seg k_135 h_135 call again 2000 19 [some (.ref v0), some (.int v1), some (.int v2), some (.int v3), some (.int v4), none, none, none, none, none] [] σ =
    if v4 < 0 then (again 91 [some (.ref v0), some (.int v1), some (.int v2), some (.int v3), some (.int v4), none, none, none, none, none] [] σ)
    else if v4 = (j_k 2) then (if (j_k 256) = 0 then none else
     again 60 [some (.ref v0), some (.int v1), some (.int v2), some (.int v3), some (.int v4), some (.int (v3 / (j_k 256))), none, none, none, none] [] σ)
    else if v4 = (j_k 1) then (if (j_k 16) = 0 then none else
     if (j_k 16) = 0 then none else
     again 60 [some (.ref v0), some (.int v1), some (.int v2), some (.int v3), some (.int v4), some (.int ((v3 / (j_k 16)) - (v3 / (j_k 16)) / (j_k 16) * (j_k 16))), none, none, none, none] [] σ)
    else if (j_k 16) = 0 then none else
    again 60 [some (.ref v0), some (.int v1), some (.int v2), some (.int v3), some (.int v4), some (.int (v3 - v3 / (j_k 16) * (j_k 16))), none, none, none, none] [] σ := rfl

set_option maxRecDepth 1000000 in
set_option maxHeartbeats 8000000 in
theorem t_135_60 (call : Nat → List Value → Sto → Option Rr) (again : Nat → j_L → List Value → Sto → Option Rr) (σ : Sto) (v0 : Nat) (v1 : Int32) (v2 : Int32) (v3 : Int32) (v4 : Int32) (v5 : Int32) :
    j_seg k_135 h_135 call again 2000 60 [some (.ref v0), some (.int v1), some (.int v2), some (.int v3), some (.int v4), some (.int v5), none, none, none, none] [] σ =
    if (j_k 4) = 0 then none else
    if (j_k 4) = 0 then none else
    j_oc σ 6 v0 (j_c1 call 84 [.ref v0, .int (v5 / (j_k 4)), .int (v5 - v5 / (j_k 4) * (j_k 4))] σ (fun x2 τ1 =>
    if x2 < 0 then (if (j_k 0) = 0 ∨ (j_k 0) = 1 then some (some (.int (j_k 0)), τ1) else none)
    else j_oc τ1 6 v0 (j_c1 call 86 [.ref v0] τ1 (fun x4 τ3 =>
    if x4 < (j_k 2) then (if (j_k 0) = 0 ∨ (j_k 0) = 1 then some (some (.int (j_k 0)), τ3) else none)
    else again 19 [some (.ref v0), some (.int v1), some (.int v2), some (.int v3), some (.int (v4 + (j_k (-1)))), none, none, none, none, none] [] τ3)))) := rfl

set_option maxRecDepth 1000000 in
set_option maxHeartbeats 8000000 in
theorem t_135_91 (call : Nat → List Value → Sto → Option Rr) (again : Nat → j_L → List Value → Sto → Option Rr) (σ : Sto) (v0 : Nat) (v1 : Int32) (v2 : Int32) (v3 : Int32) (v4 : Int32) :
    j_seg k_135 h_135 call again 2000 91 [some (.ref v0), some (.int v1), some (.int v2), some (.int v3), some (.int v4), none, none, none, none, none] [] σ =
    again 94 [some (.ref v0), some (.int v1), some (.int v2), some (.int v3), some (.int (j_k 0)), none, none, none, none, none] [] σ := rfl

set_option maxRecDepth 1000000 in
set_option maxHeartbeats 8000000 in
theorem t_135_94 (call : Nat → List Value → Sto → Option Rr) (again : Nat → j_L → List Value → Sto → Option Rr) (σ : Sto) (v0 : Nat) (v1 : Int32) (v2 : Int32) (v3 : Int32) (v4 : Int32) :
    j_seg k_135 h_135 call again 2000 94 [some (.ref v0), some (.int v1), some (.int v2), some (.int v3), some (.int v4), none, none, none, none, none] [] σ =
    if v4 < v1 then (j_oc σ 6 v0 (j_c1 call 81 [.ref v0, .int v4, .int (j_k 1)] σ (fun x2 τ1 =>
     j_c1 call 133 [.ref v0, .int x2] τ1 (fun x4 τ3 =>
     if x4 < 0 then (if (j_k 0) = 0 ∨ (j_k 0) = 1 then some (some (.int (j_k 0)), τ3) else none)
     else j_oc τ3 6 v0 (j_c1 call 79 [.ref v0, .int x4] τ3 (fun x6 τ5 =>
     if x6 = (j_k 3) then (again 94 [some (.ref v0), some (.int v1), some (.int v2), some (.int v3), some (.int (v4 + (j_k 1))), none, none, none, none, none] [] τ5)
     else if (j_k 0) = 0 ∨ (j_k 0) = 1 then some (some (.int (j_k 0)), τ5) else none))))))
    else again 136 [some (.ref v0), some (.int v1), some (.int v2), some (.int v3), some (.int v4), none, none, none, none, none] [] σ := rfl

set_option maxRecDepth 1000000 in
set_option maxHeartbeats 8000000 in
theorem t_135_136 (call : Nat → List Value → Sto → Option Rr) (again : Nat → j_L → List Value → Sto → Option Rr) (σ : Sto) (v0 : Nat) (v1 : Int32) (v2 : Int32) (v3 : Int32) (v4 : Int32) :
    j_seg k_135 h_135 call again 2000 136 [some (.ref v0), some (.int v1), some (.int v2), some (.int v3), some (.int v4), none, none, none, none, none] [] σ =
    j_oc σ 6 v0 (j_c1 call 92 [.ref v0] σ (fun x2 τ1 =>
    if x2 = 0 then (j_oc τ1 6 v0 (j_c1 call 108 [.ref v0, .int (j_k 2)] τ1 (fun x4 τ3 =>
     if x4 = 0 then (j_oc τ3 6 v0 (j_c1 call 91 [.ref v0, .int (j_k 0)] τ3 (fun x6 τ5 =>
      if x6 < 0 then (if (j_k 0) = 0 ∨ (j_k 0) = 1 then some (some (.int (j_k 0)), τ5) else none)
      else again 161 [some (.ref v0), some (.int v1), some (.int v2), some (.int v3), none, none, none, none, none, none] [] τ5)))
     else if (j_k 0) = 0 ∨ (j_k 0) = 1 then some (some (.int (j_k 0)), τ3) else none)))
    else if (j_k 0) = 0 ∨ (j_k 0) = 1 then some (some (.int (j_k 0)), τ1) else none)) := rfl

set_option maxRecDepth 1000000 in
set_option maxHeartbeats 8000000 in
theorem t_135_161 (call : Nat → List Value → Sto → Option Rr) (again : Nat → j_L → List Value → Sto → Option Rr) (σ : Sto) (v0 : Nat) (v1 : Int32) (v2 : Int32) (v3 : Int32) :
    j_seg k_135 h_135 call again 2000 161 [some (.ref v0), some (.int v1), some (.int v2), some (.int v3), none, none, none, none, none, none] [] σ =
    j_oc σ 6 v0 (j_c1 call 94 [.ref v0] σ (fun x2 τ1 =>
    j_oc τ1 6 v0 (j_c1 call 105 [.ref v0] τ1 (fun x4 τ3 =>
    j_oc τ3 6 v0 (j_c1 call 108 [.ref v0, .int (j_k 2)] τ3 (fun x6 τ5 =>
    if x2 < 0 then (again 328 [some (.ref v0), some (.int v1), some (.int v2), some (.int v3), some (.int x2), some (.int x4), some (.int x6), none, none, none] [] τ5)
    else if (j_k 4) = 0 then none else
    if (j_k 4) = 0 then none else
    j_oc τ5 6 v0 (j_c1 call 84 [.ref v0, .int (x2 / (j_k 4)), .int (x2 - x2 / (j_k 4) * (j_k 4))] τ5 (fun x8 τ7 =>
    if x8 < 0 then (if (j_k 0) = 0 ∨ (j_k 0) = 1 then some (some (.int (j_k 0)), τ7) else none)
    else j_oc τ7 6 v0 (j_c1 call 86 [.ref v0] τ7 (fun x10 τ9 =>
    if x10 < (j_k 2) then (if (j_k 0) = 0 ∨ (j_k 0) = 1 then some (some (.int (j_k 0)), τ9) else none)
    else j_oc τ9 6 v0 (j_c1 call 89 [.ref v0] τ9 (fun x12 τ11 =>
    if x12 = x4 then (j_oc τ11 6 v0 (j_c1 call 108 [.ref v0, .int (j_k 2)] τ11 (fun x14 τ13 =>
     if x6 < x14 then (if (j_k 0) = 0 ∨ (j_k 0) = 1 then some (some (.int (j_k 0)), τ13) else none)
     else j_oc τ13 6 v0 (j_c1 call 88 [.ref v0, .int (j_k 1)] τ13 (fun x16 τ15 =>
     j_oc τ15 6 v0 (j_c1 call 108 [.ref v0, .int (j_k 2)] τ15 (fun x18 τ17 =>
     if x16 = x18 then (j_oc τ17 6 v0 (j_c1 call 91 [.ref v0, .int (j_k 0)] τ17 (fun x20 τ19 =>
      if x20 < 0 then (if (j_k 0) = 0 ∨ (j_k 0) = 1 then some (some (.int (j_k 0)), τ19) else none)
      else again 250 [some (.ref v0), some (.int v1), some (.int v2), some (.int v3), some (.int x2), some (.int x4), some (.int x6), none, none, none] [] τ19)))
     else if (j_k 0) = 0 ∨ (j_k 0) = 1 then some (some (.int (j_k 0)), τ17) else none)))))))
    else if (j_k 0) = 0 ∨ (j_k 0) = 1 then some (some (.int (j_k 0)), τ11) else none)))))))))))) := rfl

set_option maxRecDepth 1000000 in
set_option maxHeartbeats 8000000 in
theorem t_135_250 (call : Nat → List Value → Sto → Option Rr) (again : Nat → j_L → List Value → Sto → Option Rr) (σ : Sto) (v0 : Nat) (v1 : Int32) (v2 : Int32) (v3 : Int32) (v4 : Int32) (v5 : Int32) (v6 : Int32) :
    j_seg k_135 h_135 call again 2000 250 [some (.ref v0), some (.int v1), some (.int v2), some (.int v3), some (.int v4), some (.int v5), some (.int v6), none, none, none] [] σ =
    j_oc σ 6 v0 (j_c1 call 102 [.ref v0, .int (j_k 1)] σ (fun x2 τ1 =>
    if x2 < 0 then (if (j_k 0) = 0 ∨ (j_k 0) = 1 then some (some (.int (j_k 0)), τ1) else none)
    else if (j_k 1) < x2 then (if (j_k 0) = 0 ∨ (j_k 0) = 1 then some (some (.int (j_k 0)), τ1) else none)
    else if x2 = (j_k 1) then (j_oc τ1 6 v0 (j_c1 call 103 [.ref v0, .int (j_k 1)] τ1 (fun x4 τ3 =>
     j_oc τ3 6 v0 (j_c1 call 105 [.ref v0] τ3 (fun x6 τ5 =>
     if (j_k 4) = 0 then none else
     if ((x4 >>> ((v4 / (j_k 4)) &&& 31)) &&& (j_k 1)) = (j_k 1) then (if (j_k 4) = 0 then none else
      if ((x6 >>> ((v4 - v4 / (j_k 4) * (j_k 4)) &&& 31)) &&& (j_k 1)) = (j_k 1) then (again 317 [some (.ref v0), some (.int v1), some (.int v2), some (.int v3), some (.int v4), some (.int v5), some (.int v6), some (.int x2), none, none] [] τ5)
      else if (j_k 0) = 0 ∨ (j_k 0) = 1 then some (some (.int (j_k 0)), τ5) else none)
     else if (j_k 0) = 0 ∨ (j_k 0) = 1 then some (some (.int (j_k 0)), τ5) else none)))))
    else again 317 [some (.ref v0), some (.int v1), some (.int v2), some (.int v3), some (.int v4), some (.int v5), some (.int v6), some (.int x2), none, none] [] τ1)) := rfl

set_option maxRecDepth 1000000 in
set_option maxHeartbeats 8000000 in
theorem t_135_317 (call : Nat → List Value → Sto → Option Rr) (again : Nat → j_L → List Value → Sto → Option Rr) (σ : Sto) (v0 : Nat) (v1 : Int32) (v2 : Int32) (v3 : Int32) (v4 : Int32) (v5 : Int32) (v6 : Int32) (v7 : Int32) :
    j_seg k_135 h_135 call again 2000 317 [some (.ref v0), some (.int v1), some (.int v2), some (.int v3), some (.int v4), some (.int v5), some (.int v6), some (.int v7), none, none] [] σ =
    j_oc σ 6 v0 (j_c1 call 72 [.ref v0, .int (j_k 1)] σ (fun x2 τ1 =>
    if x2 = (j_k 1) then (again 328 [some (.ref v0), some (.int v1), some (.int v2), some (.int v3), some (.int v4), some (.int v5), some (.int v6), none, none, none] [] τ1)
    else if (j_k 0) = 0 ∨ (j_k 0) = 1 then some (some (.int (j_k 0)), τ1) else none)) := rfl

set_option maxRecDepth 1000000 in
set_option maxHeartbeats 8000000 in
theorem t_135_328 (call : Nat → List Value → Sto → Option Rr) (again : Nat → j_L → List Value → Sto → Option Rr) (σ : Sto) (v0 : Nat) (v1 : Int32) (v2 : Int32) (v3 : Int32) (v4 : Int32) (v5 : Int32) (v6 : Int32) :
    j_seg k_135 h_135 call again 2000 328 [some (.ref v0), some (.int v1), some (.int v2), some (.int v3), some (.int v4), some (.int v5), some (.int v6), none, none, none] [] σ =
    j_oc σ 6 v0 (j_c1 call 88 [.ref v0, .int (j_k 1)] σ (fun x2 τ1 =>
    if x2 = v6 then (j_oc τ1 6 v0 (j_c1 call 102 [.ref v0, .int (j_k 1)] τ1 (fun x4 τ3 =>
     if x4 = 0 then (j_oc τ3 6 v0 (j_c1 call 72 [.ref v0, .int (j_k 1)] τ3 (fun x6 τ5 =>
      if x6 = (j_k 1) then (if (j_k 1) = 0 ∨ (j_k 1) = 1 then some (some (.int (j_k 1)), τ5) else none)
      else if (j_k 0) = 0 ∨ (j_k 0) = 1 then some (some (.int (j_k 0)), τ5) else none)))
     else if (j_k 0) = 0 ∨ (j_k 0) = 1 then some (some (.int (j_k 0)), τ3) else none)))
    else if (j_k 0) = 0 ∨ (j_k 0) = 1 then some (some (.int (j_k 0)), τ1) else none)) := rfl

-- LastStirredLaw.runs(LLastStirred;I)Z
set_option maxRecDepth 1000000 in
set_option maxHeartbeats 8000000 in
theorem t_136_0 (call : Nat → List Value → Sto → Option Rr) (again : Nat → j_L → List Value → Sto → Option Rr) (σ : Sto) (v0 : Nat) (v1 : Int32) :
    j_seg k_136 h_136 call again 2000 0 [some (.ref v0), some (.int v1), none, none, none, none, none, none] [] σ =
    j_oc σ 6 v0 (j_c1 call 108 [.ref v0, .int (j_k 3)] σ (fun x2 τ1 =>
    j_oc τ1 6 v0 (j_c1 call 86 [.ref v0] τ1 (fun x4 τ3 =>
    j_oc τ3 6 v0 (j_c1 call 105 [.ref v0] τ3 (fun x6 τ5 =>
    j_oc τ5 6 v0 (j_c1 call 83 [.ref v0] τ5 (fun x8 τ7 =>
    if x4 < (j_k 2) then (if (j_k 0) = 0 ∨ (j_k 0) = 1 then some (some (.int (j_k 0)), τ7) else none)
    else if (j_k 40) < x4 then (if (j_k 0) = 0 ∨ (j_k 0) = 1 then some (some (.int (j_k 0)), τ7) else none)
    else j_oc τ7 6 v0 (j_c1 call 108 [.ref v0, .int (j_k 3)] τ7 (fun x10 τ9 =>
    if x10 = (x2 + x4) then (if x6 = 0 then (if x4 = (j_k 40) then (again 56 [some (.ref v0), some (.int v1), some (.int x2), some (.int x4), some (.int x6), some (.int x8), none, none] [] τ9)
      else if (j_k 0) = 0 ∨ (j_k 0) = 1 then some (some (.int (j_k 0)), τ9) else none)
     else again 56 [some (.ref v0), some (.int v1), some (.int x2), some (.int x4), some (.int x6), some (.int x8), none, none] [] τ9)
    else if (j_k 0) = 0 ∨ (j_k 0) = 1 then some (some (.int (j_k 0)), τ9) else none)))))))))) := rfl

set_option maxRecDepth 1000000 in
set_option maxHeartbeats 8000000 in
theorem t_136_56 (call : Nat → List Value → Sto → Option Rr) (again : Nat → j_L → List Value → Sto → Option Rr) (σ : Sto) (v0 : Nat) (v1 : Int32) (v2 : Int32) (v3 : Int32) (v4 : Int32) (v5 : Int32) :
    j_seg k_136 h_136 call again 2000 56 [some (.ref v0), some (.int v1), some (.int v2), some (.int v3), some (.int v4), some (.int v5), none, none] [] σ =
    j_oc σ 6 v0 (j_c1 call 88 [.ref v0, .int (j_k 1)] σ (fun x2 τ1 =>
    j_oc τ1 6 v0 (j_c1 call 108 [.ref v0, .int (j_k 2)] τ1 (fun x4 τ3 =>
    if x2 = x4 then (again 71 [some (.ref v0), some (.int v1), some (.int v2), some (.int v3), some (.int v4), some (.int v5), none, none] [] τ3)
    else if (j_k 0) = 0 ∨ (j_k 0) = 1 then some (some (.int (j_k 0)), τ3) else none)))) := rfl

set_option maxRecDepth 1000000 in
set_option maxHeartbeats 8000000 in
theorem t_136_71 (call : Nat → List Value → Sto → Option Rr) (again : Nat → j_L → List Value → Sto → Option Rr) (σ : Sto) (v0 : Nat) (v1 : Int32) (v2 : Int32) (v3 : Int32) (v4 : Int32) (v5 : Int32) :
    j_seg k_136 h_136 call again 2000 71 [some (.ref v0), some (.int v1), some (.int v2), some (.int v3), some (.int v4), some (.int v5), none, none] [] σ =
    if v4 = (j_k 1) then (j_oc σ 6 v0 (j_c1 call 85 [.ref v0, .int (j_k 2)] σ (fun x2 τ1 =>
     if x2 = 0 then (j_oc τ1 6 v0 (j_c1 call 83 [.ref v0] τ1 (fun x4 τ3 =>
      if x4 = v5 then (again 96 [some (.ref v0), some (.int v1), some (.int v2), some (.int v3), some (.int v4), some (.int v5), none, none] [] τ3)
      else if (j_k 0) = 0 ∨ (j_k 0) = 1 then some (some (.int (j_k 0)), τ3) else none)))
     else if (j_k 0) = 0 ∨ (j_k 0) = 1 then some (some (.int (j_k 0)), τ1) else none)))
    else again 96 [some (.ref v0), some (.int v1), some (.int v2), some (.int v3), some (.int v4), some (.int v5), none, none] [] σ := rfl

set_option maxRecDepth 1000000 in
set_option maxHeartbeats 8000000 in
theorem t_136_96 (call : Nat → List Value → Sto → Option Rr) (again : Nat → j_L → List Value → Sto → Option Rr) (σ : Sto) (v0 : Nat) (v1 : Int32) (v2 : Int32) (v3 : Int32) (v4 : Int32) (v5 : Int32) :
    j_seg k_136 h_136 call again 2000 96 [some (.ref v0), some (.int v1), some (.int v2), some (.int v3), some (.int v4), some (.int v5), none, none] [] σ =
    j_oc σ 6 v0 (j_c1 call 91 [.ref v0, .int (j_k 0)] σ (fun x2 τ1 =>
    if x2 = v2 then (again 110 [some (.ref v0), some (.int v1), some (.int v2), some (.int v3), some (.int v4), some (.int v5), some (.int (j_k 0)), none] [] τ1)
    else if (j_k 0) = 0 ∨ (j_k 0) = 1 then some (some (.int (j_k 0)), τ1) else none)) := rfl

set_option maxRecDepth 1000000 in
set_option maxHeartbeats 8000000 in
theorem t_136_110 (call : Nat → List Value → Sto → Option Rr) (again : Nat → j_L → List Value → Sto → Option Rr) (σ : Sto) (v0 : Nat) (v1 : Int32) (v2 : Int32) (v3 : Int32) (v4 : Int32) (v5 : Int32) (v6 : Int32) :
    j_seg k_136 h_136 call again 2000 110 [some (.ref v0), some (.int v1), some (.int v2), some (.int v3), some (.int v4), some (.int v5), some (.int v6), none] [] σ =
    if v6 < v3 then (j_oc σ 6 v0 (j_c1 call 85 [.ref v0, .int (j_k 1)] σ (fun x2 τ1 =>
     if x2 < 0 then (if (j_k 0) = 0 ∨ (j_k 0) = 1 then some (some (.int (j_k 0)), τ1) else none)
     else again 110 [some (.ref v0), some (.int v1), some (.int v2), some (.int v3), some (.int v4), some (.int v5), some (.int (v6 + (j_k 1))), none] [] τ1)))
    else again 132 [some (.ref v0), some (.int v1), some (.int v2), some (.int v3), some (.int v4), some (.int v5), some (.int v6), none] [] σ := rfl

set_option maxRecDepth 1000000 in
set_option maxHeartbeats 8000000 in
theorem t_136_132 (call : Nat → List Value → Sto → Option Rr) (again : Nat → j_L → List Value → Sto → Option Rr) (σ : Sto) (v0 : Nat) (v1 : Int32) (v2 : Int32) (v3 : Int32) (v4 : Int32) (v5 : Int32) (v6 : Int32) :
    j_seg k_136 h_136 call again 2000 132 [some (.ref v0), some (.int v1), some (.int v2), some (.int v3), some (.int v4), some (.int v5), some (.int v6), none] [] σ =
    again 135 [some (.ref v0), some (.int v1), some (.int v2), some (.int v3), some (.int v4), some (.int v5), some (.int (j_k 0)), none] [] σ := rfl

set_option maxRecDepth 1000000 in
set_option maxHeartbeats 8000000 in
theorem t_136_135 (call : Nat → List Value → Sto → Option Rr) (again : Nat → j_L → List Value → Sto → Option Rr) (σ : Sto) (v0 : Nat) (v1 : Int32) (v2 : Int32) (v3 : Int32) (v4 : Int32) (v5 : Int32) (v6 : Int32) :
    j_seg k_136 h_136 call again 2000 135 [some (.ref v0), some (.int v1), some (.int v2), some (.int v3), some (.int v4), some (.int v5), some (.int v6), none] [] σ =
    if v6 < v1 then (j_oc σ 6 v0 (j_c1 call 81 [.ref v0, .int v6, .int (j_k 1)] σ (fun x2 τ1 =>
     j_c1 call 133 [.ref v0, .int x2] τ1 (fun x4 τ3 =>
     j_oc τ3 6 v0 (j_c1 call 71 [.ref v0, .int (j_k 1), .int v6] τ3 (fun x6 τ5 =>
     if x6 = (j_k 1) then (j_oc τ5 6 v0 (j_c1 call 105 [.ref v0] τ5 (fun x8 τ7 =>
      if x8 = x4 then (again 135 [some (.ref v0), some (.int v1), some (.int v2), some (.int v3), some (.int v4), some (.int v5), some (.int (v6 + (j_k 1))), none] [] τ7)
      else if (j_k 0) = 0 ∨ (j_k 0) = 1 then some (some (.int (j_k 0)), τ7) else none)))
     else if (j_k 0) = 0 ∨ (j_k 0) = 1 then some (some (.int (j_k 0)), τ5) else none))))))
    else j_oc σ 6 v0 (j_c1 call 72 [.ref v0, .int (j_k 1)] σ (fun x10 τ9 =>
    if x10 = (j_k 1) then (if (j_k 1) = 0 ∨ (j_k 1) = 1 then some (some (.int (j_k 1)), τ9) else none)
    else if (j_k 0) = 0 ∨ (j_k 0) = 1 then some (some (.int (j_k 0)), τ9) else none)) := rfl

