/-! ===== what each stretch of each method does (by program wip/gen) ===== -/
-- LastStirredLaw.cell([II)I
set_option maxRecDepth 1000000 in
set_option maxHeartbeats 8000000 in
theorem t_128_0 (call : Nat → List Value → Sto → Option Rr) (again : Nat → j_L → List Value → Sto → Option Rr) (σ : Sto) (v0 : Nat) (v1 : Int32) :
    j_seg k_128 h_128 call again 2000 0 [some (.ref v0), some (.int v1)] [] σ =
    j_len σ v0 (fun n1 =>
    if v1 < n1 then (j_ia σ v0 v1 (
     some (some (.int ((s_I σ v0 v1.toNatClampNeg) &&& (j_ci 3))), σ)))
    else some (some (.int ((((j_k 61) * v1) + (j_k 7)) * (v1 + (j_k 3)))), σ)) := rfl

-- LastStirredLaw.put(LLastStirred;II)I
set_option maxRecDepth 1000000 in
set_option maxHeartbeats 8000000 in
theorem t_129_0 (call : Nat → List Value → Sto → Option Rr) (again : Nat → j_L → List Value → Sto → Option Rr) (σ : Sto) (v0 : Nat) (v1 : Int32) (v2 : Int32) :
    j_seg k_129 h_129 call again 2000 0 [some (.ref v0), some (.int v1), some (.int v2)] [] σ =
    if v1 < 0 then (some (some (.int (j_k (-1000))), σ))
    else j_oc σ 6 v0 (j_c1 call 76 [.ref v0, .int (j_k 3), .int v1, .int v2] σ (fun x2 τ1 =>
    if x2 = (j_k 1032) then (some (some (.int (v1 + (j_k 1))), τ1))
    else some (some (.int (j_k (-1000))), τ1))) := rfl

-- LastStirredLaw.numbers([III[I)V
set_option maxRecDepth 1000000 in
set_option maxHeartbeats 8000000 in
theorem t_130_0 (call : Nat → List Value → Sto → Option Rr) (again : Nat → j_L → List Value → Sto → Option Rr) (σ : Sto) (v0 : Nat) (v1 : Int32) (v2 : Int32) (v3 : Nat) :
    j_seg k_130 h_130 call again 2000 0 [some (.ref v0), some (.int v1), some (.int v2), some (.ref v3), none, none, none, none, none, none, none, none] [] σ =
    j_c1 call 128 [.ref v0, .int v1] σ (fun x2 τ1 =>
    if (j_k 5) = 0 then none else
    j_c1 call 128 [.ref v0, .int v1] τ1 (fun x4 τ3 =>
    if (j_k 8) = 0 then none else
    if (j_k 5) = 0 then none else
    j_is τ3 v3 (j_k 0) (let τ5 : Sto := s_uI τ3 v3 (j_k 0).toNatClampNeg ((j_k 2) + (x2 - x2 / (j_k 5) * (j_k 5)));
    j_is τ5 v3 (j_k 1) (let τ6 : Sto := s_uI τ5 v3 (j_k 1).toNatClampNeg ((j_k 1) + ((x4 / (j_k 8)) - (x4 / (j_k 8)) / (j_k 5) * (j_k 5)));
    again 38 [some (.ref v0), some (.int v1), some (.int v2), some (.ref v3), some (.int ((j_k 2) + (x2 - x2 / (j_k 5) * (j_k 5)))), some (.int ((j_k 1) + ((x4 / (j_k 8)) - (x4 / (j_k 8)) / (j_k 5) * (j_k 5)))), some (.int (j_k 0)), none, none, none, none, none] [] τ6)))) := rfl

set_option maxRecDepth 1000000 in
set_option maxHeartbeats 8000000 in
theorem t_130_38 (call : Nat → List Value → Sto → Option Rr) (again : Nat → j_L → List Value → Sto → Option Rr) (σ : Sto) (v0 : Nat) (v1 : Int32) (v2 : Int32) (v3 : Nat) (v4 : Int32) (v5 : Int32) (v6 : Int32) :
    j_seg k_130 h_130 call again 2000 38 [some (.ref v0), some (.int v1), some (.int v2), some (.ref v3), some (.int v4), some (.int v5), some (.int v6), none, none, none, none, none] [] σ =
    if v6 < (v4 * v5) then (if (j_k 3) = 0 then none else
     j_c1 call 128 [.ref v0, .int ((v1 + (j_k 1)) + (v6 / (j_k 3)))] σ (fun x2 τ1 =>
     if (j_k 3) = 0 then none else
     if (((v6 - v6 / (j_k 3) * (j_k 3)) * (j_k 300)) + (j_k 1)) = 0 then none else
     if (j_k 16) = 0 then none else
     if ((x2 / (((v6 - v6 / (j_k 3) * (j_k 3)) * (j_k 300)) + (j_k 1))) - (x2 / (((v6 - v6 / (j_k 3) * (j_k 3)) * (j_k 300)) + (j_k 1))) / (j_k 16) * (j_k 16)) < (j_k 9) then (j_is τ1 v3 ((j_k 2) + v6) (let τ3 : Sto := s_uI τ1 v3 ((j_k 2) + v6).toNatClampNeg (j_k 0);
      again 38 [some (.ref v0), some (.int v1), some (.int v2), some (.ref v3), some (.int v4), some (.int v5), some (.int (v6 + (j_k 1))), none, none, none, none, none] [] τ3))
     else if ((x2 / (((v6 - v6 / (j_k 3) * (j_k 3)) * (j_k 300)) + (j_k 1))) - (x2 / (((v6 - v6 / (j_k 3) * (j_k 3)) * (j_k 300)) + (j_k 1))) / (j_k 16) * (j_k 16)) < (j_k 11) then (j_is τ1 v3 ((j_k 2) + v6) (let τ4 : Sto := s_uI τ1 v3 ((j_k 2) + v6).toNatClampNeg (j_k 1);
      again 38 [some (.ref v0), some (.int v1), some (.int v2), some (.ref v3), some (.int v4), some (.int v5), some (.int (v6 + (j_k 1))), none, none, none, none, none] [] τ4))
     else if ((x2 / (((v6 - v6 / (j_k 3) * (j_k 3)) * (j_k 300)) + (j_k 1))) - (x2 / (((v6 - v6 / (j_k 3) * (j_k 3)) * (j_k 300)) + (j_k 1))) / (j_k 16) * (j_k 16)) < (j_k 12) then (j_is τ1 v3 ((j_k 2) + v6) (let τ5 : Sto := s_uI τ1 v3 ((j_k 2) + v6).toNatClampNeg (j_k 2);
      again 38 [some (.ref v0), some (.int v1), some (.int v2), some (.ref v3), some (.int v4), some (.int v5), some (.int (v6 + (j_k 1))), none, none, none, none, none] [] τ5))
     else if ((x2 / (((v6 - v6 / (j_k 3) * (j_k 3)) * (j_k 300)) + (j_k 1))) - (x2 / (((v6 - v6 / (j_k 3) * (j_k 3)) * (j_k 300)) + (j_k 1))) / (j_k 16) * (j_k 16)) < (j_k 14) then (j_is τ1 v3 ((j_k 2) + v6) (let τ6 : Sto := s_uI τ1 v3 ((j_k 2) + v6).toNatClampNeg (j_k 3);
      again 38 [some (.ref v0), some (.int v1), some (.int v2), some (.ref v3), some (.int v4), some (.int v5), some (.int (v6 + (j_k 1))), none, none, none, none, none] [] τ6))
     else j_is τ1 v3 ((j_k 2) + v6) (let τ7 : Sto := s_uI τ1 v3 ((j_k 2) + v6).toNatClampNeg (j_k 4);
     again 38 [some (.ref v0), some (.int v1), some (.int v2), some (.ref v3), some (.int v4), some (.int v5), some (.int (v6 + (j_k 1))), none, none, none, none, none] [] τ7)))
    else j_is σ v3 (j_k 40) (let τ8 : Sto := s_uI σ v3 (j_k 40).toNatClampNeg (j_k 0);
    j_c1 call 128 [.ref v0, .int (v1 + (j_k 12))] τ8 (fun x10 τ9 =>
    if v2 = 0 then none else
    again 155 [some (.ref v0), some (.int v1), some (.int v2), some (.ref v3), some (.int v4), some (.int v5), some (.int ((j_k 1) + (x10 - x10 / v2 * v2))), some (.int (j_k 0)), none, none, none, none] [] τ9)) := rfl

set_option maxRecDepth 1000000 in
set_option maxHeartbeats 8000000 in
theorem t_130_155 (call : Nat → List Value → Sto → Option Rr) (again : Nat → j_L → List Value → Sto → Option Rr) (σ : Sto) (v0 : Nat) (v1 : Int32) (v2 : Int32) (v3 : Nat) (v4 : Int32) (v5 : Int32) (v6 : Int32) (v7 : Int32) :
    j_seg k_130 h_130 call again 2000 155 [some (.ref v0), some (.int v1), some (.int v2), some (.ref v3), some (.int v4), some (.int v5), some (.int v6), some (.int v7), none, none, none, none] [] σ =
    if v7 < v6 then (j_c1 call 128 [.ref v0, .int ((v1 + (j_k 13)) + v7)] σ (fun x2 τ1 =>
     if (j_k 8) = 0 then none else
     if (v4 * v5) = 0 then none else
     j_ia τ1 v3 ((j_k 2) + ((x2 / (j_k 8)) - (x2 / (j_k 8)) / (v4 * v5) * (v4 * v5))) (
     if (s_I τ1 v3 ((j_k 2) + ((x2 / (j_k 8)) - (x2 / (j_k 8)) / (v4 * v5) * (v4 * v5))).toNatClampNeg) = (j_k 1) then (again 218 [some (.ref v0), some (.int v1), some (.int v2), some (.ref v3), some (.int v4), some (.int v5), some (.int v6), some (.int v7), some (.int x2), some (.int ((x2 / (j_k 8)) - (x2 / (j_k 8)) / (v4 * v5) * (v4 * v5))), some (.int (j_k 0)), some (.int (j_k 0))] [] τ1)
     else j_ia τ1 v3 ((j_k 2) + ((x2 / (j_k 8)) - (x2 / (j_k 8)) / (v4 * v5) * (v4 * v5))) (
     if (s_I τ1 v3 ((j_k 2) + ((x2 / (j_k 8)) - (x2 / (j_k 8)) / (v4 * v5) * (v4 * v5))).toNatClampNeg) = (j_k 2) then (again 218 [some (.ref v0), some (.int v1), some (.int v2), some (.ref v3), some (.int v4), some (.int v5), some (.int v6), some (.int v7), some (.int x2), some (.int ((x2 / (j_k 8)) - (x2 / (j_k 8)) / (v4 * v5) * (v4 * v5))), some (.int (j_k 0)), some (.int (j_k 0))] [] τ1)
     else again 218 [some (.ref v0), some (.int v1), some (.int v2), some (.ref v3), some (.int v4), some (.int v5), some (.int v6), some (.int v7), some (.int x2), some (.int ((x2 / (j_k 8)) - (x2 / (j_k 8)) / (v4 * v5) * (v4 * v5))), some (.int (j_k 1)), some (.int (j_k 0))] [] τ1))))
    else some (none, σ) := rfl

set_option maxRecDepth 1000000 in
set_option maxHeartbeats 8000000 in
theorem t_130_218 (call : Nat → List Value → Sto → Option Rr) (again : Nat → j_L → List Value → Sto → Option Rr) (σ : Sto) (v0 : Nat) (v1 : Int32) (v2 : Int32) (v3 : Nat) (v4 : Int32) (v5 : Int32) (v6 : Int32) (v7 : Int32) (v8 : Int32) (v9 : Int32) (v10 : Int32) (v11 : Int32) :
    j_seg k_130 h_130 call again 2000 218 [some (.ref v0), some (.int v1), some (.int v2), some (.ref v3), some (.int v4), some (.int v5), some (.int v6), some (.int v7), some (.int v8), some (.int v9), some (.int v10), some (.int v11)] [] σ =
    j_ia σ v3 (j_k 40) (
    if v11 < (s_I σ v3 (j_k 40).toNatClampNeg) then (j_ia σ v3 ((j_k 45) + v11) (
     if (s_I σ v3 ((j_k 45) + v11).toNatClampNeg) = v9 then (again 218 [some (.ref v0), some (.int v1), some (.int v2), some (.ref v3), some (.int v4), some (.int v5), some (.int v6), some (.int v7), some (.int v8), some (.int v9), some (.int (v10 &&& (j_k 0))), some (.int (v11 + (j_k 1)))] [] σ)
     else again 218 [some (.ref v0), some (.int v1), some (.int v2), some (.ref v3), some (.int v4), some (.int v5), some (.int v6), some (.int v7), some (.int v8), some (.int v9), some (.int (v10 &&& (j_k 1))), some (.int (v11 + (j_k 1)))] [] σ))
    else if v10 = 0 then (again 155 [some (.ref v0), some (.int v1), some (.int v2), some (.ref v3), some (.int v4), some (.int v5), some (.int v6), some (.int (v7 + (j_k 1))), none, none, none, none] [] σ)
    else j_ia σ v3 (j_k 40) (
    if (j_k 8) = 0 then none else
    if (j_k 5) < (v8 - v8 / (j_k 8) * (j_k 8)) then (j_is σ v3 ((j_k 41) + (s_I σ v3 (j_k 40).toNatClampNeg)) (let τ1 : Sto := s_uI σ v3 ((j_k 41) + (s_I σ v3 (j_k 40).toNatClampNeg)).toNatClampNeg (j_k 0);
     j_ia τ1 v3 (j_k 40) (
     j_is τ1 v3 ((j_k 45) + (s_I τ1 v3 (j_k 40).toNatClampNeg)) (let τ2 : Sto := s_uI τ1 v3 ((j_k 45) + (s_I τ1 v3 (j_k 40).toNatClampNeg)).toNatClampNeg v9;
     j_ia τ2 v3 (j_k 40) (
     j_is τ2 v3 (j_k 40) (let τ3 : Sto := s_uI τ2 v3 (j_k 40).toNatClampNeg ((s_I τ2 v3 (j_k 40).toNatClampNeg) + (j_k 1));
     again 155 [some (.ref v0), some (.int v1), some (.int v2), some (.ref v3), some (.int v4), some (.int v5), some (.int v6), some (.int (v7 + (j_k 1))), none, none, none, none] [] τ3))))))
    else if (j_k 8) = 0 then none else
    j_is σ v3 ((j_k 41) + (s_I σ v3 (j_k 40).toNatClampNeg)) (let τ4 : Sto := s_uI σ v3 ((j_k 41) + (s_I σ v3 (j_k 40).toNatClampNeg)).toNatClampNeg (v8 - v8 / (j_k 8) * (j_k 8));
    j_ia τ4 v3 (j_k 40) (
    j_is τ4 v3 ((j_k 45) + (s_I τ4 v3 (j_k 40).toNatClampNeg)) (let τ5 : Sto := s_uI τ4 v3 ((j_k 45) + (s_I τ4 v3 (j_k 40).toNatClampNeg)).toNatClampNeg v9;
    j_ia τ5 v3 (j_k 40) (
    j_is τ5 v3 (j_k 40) (let τ6 : Sto := s_uI τ5 v3 (j_k 40).toNatClampNeg ((s_I τ5 v3 (j_k 40).toNatClampNeg) + (j_k 1));
    again 155 [some (.ref v0), some (.int v1), some (.int v2), some (.ref v3), some (.int v4), some (.int v5), some (.int v6), some (.int (v7 + (j_k 1))), none, none, none, none] [] τ6))))))) := rfl

-- LastStirredLaw.ground(LLastStirred;[I)Z
set_option maxRecDepth 1000000 in
set_option maxHeartbeats 8000000 in
theorem t_131_0 (call : Nat → List Value → Sto → Option Rr) (again : Nat → j_L → List Value → Sto → Option Rr) (σ : Sto) (v0 : Nat) (v1 : Nat) :
    j_seg k_131 h_131 call again 2000 0 [some (.ref v0), some (.ref v1), none, none, none] [] σ =
    j_oc σ 6 v0 (j_c1 call 75 [.ref v0, .int (j_k 3), .int (j_k 80)] σ (fun x2 τ1 =>
    if x2 = (j_k 80) then (j_c1 call 129 [.ref v0, .int (j_k 1), .int (j_k 103)] τ1 (fun x4 τ3 =>
     j_ia τ3 v1 (j_k 0) (
     j_c1 call 129 [.ref v0, .int x4, .int ((j_k 48) + (s_I τ3 v1 (j_k 0).toNatClampNeg))] τ3 (fun x6 τ5 =>
     j_ia τ5 v1 (j_k 1) (
     j_c1 call 129 [.ref v0, .int x6, .int ((j_k 48) + (s_I τ5 v1 (j_k 1).toNatClampNeg))] τ5 (fun x8 τ7 =>
     again 44 [some (.ref v0), some (.ref v1), some (.int x8), some (.int (j_k 0)), none] [] τ7))))))
    else if (j_k 0) = 0 ∨ (j_k 0) = 1 then some (some (.int (j_k 0)), τ1) else none)) := rfl

set_option maxRecDepth 1000000 in
set_option maxHeartbeats 8000000 in
theorem t_131_44 (call : Nat → List Value → Sto → Option Rr) (again : Nat → j_L → List Value → Sto → Option Rr) (σ : Sto) (v0 : Nat) (v1 : Nat) (v2 : Int32) (v3 : Int32) :
    j_seg k_131 h_131 call again 2000 44 [some (.ref v0), some (.ref v1), some (.int v2), some (.int v3), none] [] σ =
    j_ia σ v1 (j_k 0) (
    j_ia σ v1 (j_k 1) (
    if v3 < ((s_I σ v1 (j_k 0).toNatClampNeg) * (s_I σ v1 (j_k 1).toNatClampNeg)) then (j_ia σ v1 ((j_k 2) + v3) (
     if (s_I σ v1 ((j_k 2) + v3).toNatClampNeg) = 0 then (j_c1 call 129 [.ref v0, .int v2, .int (j_k 46)] σ (fun x2 τ1 =>
      again 44 [some (.ref v0), some (.ref v1), some (.int x2), some (.int (v3 + (j_k 1))), none] [] τ1))
     else if (s_I σ v1 ((j_k 2) + v3).toNatClampNeg) = (j_k 1) then (j_c1 call 129 [.ref v0, .int v2, .int (j_k 35)] σ (fun x4 τ3 =>
      again 44 [some (.ref v0), some (.ref v1), some (.int x4), some (.int (v3 + (j_k 1))), none] [] τ3))
     else if (s_I σ v1 ((j_k 2) + v3).toNatClampNeg) = (j_k 2) then (j_c1 call 129 [.ref v0, .int v2, .int (j_k 126)] σ (fun x6 τ5 =>
      again 44 [some (.ref v0), some (.ref v1), some (.int x6), some (.int (v3 + (j_k 1))), none] [] τ5))
     else if (s_I σ v1 ((j_k 2) + v3).toNatClampNeg) = (j_k 3) then (j_c1 call 129 [.ref v0, .int v2, .int (j_k 111)] σ (fun x8 τ7 =>
      again 44 [some (.ref v0), some (.ref v1), some (.int x8), some (.int (v3 + (j_k 1))), none] [] τ7))
     else j_c1 call 129 [.ref v0, .int v2, .int (j_k 61)] σ (fun x10 τ9 =>
     again 44 [some (.ref v0), some (.ref v1), some (.int x10), some (.int (v3 + (j_k 1))), none] [] τ9)))
    else again 121 [some (.ref v0), some (.ref v1), some (.int v2), some (.int (j_k 0)), none] [] σ)) := rfl

set_option maxRecDepth 1000000 in
set_option maxHeartbeats 8000000 in
theorem t_131_121 (call : Nat → List Value → Sto → Option Rr) (again : Nat → j_L → List Value → Sto → Option Rr) (σ : Sto) (v0 : Nat) (v1 : Nat) (v2 : Int32) (v3 : Int32) :
    j_seg k_131 h_131 call again 2000 121 [some (.ref v0), some (.ref v1), some (.int v2), some (.int v3), none] [] σ =
    j_ia σ v1 (j_k 40) (
    if v3 < (s_I σ v1 (j_k 40).toNatClampNeg) then (j_ia σ v1 ((j_k 41) + v3) (
     if (s_I σ v1 ((j_k 41) + v3).toNatClampNeg) = 0 then (j_c1 call 129 [.ref v0, .int v2, .int (j_k 98)] σ (fun x2 τ1 =>
      j_ia τ1 v1 ((j_k 45) + v3) (
      j_ia τ1 v1 (j_k 0) (
      if (s_I τ1 v1 (j_k 0).toNatClampNeg) = 0 then none else
      j_c1 call 129 [.ref v0, .int x2, .int ((j_k 48) + ((s_I τ1 v1 ((j_k 45) + v3).toNatClampNeg) - (s_I τ1 v1 ((j_k 45) + v3).toNatClampNeg) / (s_I τ1 v1 (j_k 0).toNatClampNeg) * (s_I τ1 v1 (j_k 0).toNatClampNeg)))] τ1 (fun x4 τ3 =>
      j_ia τ3 v1 ((j_k 45) + v3) (
      j_ia τ3 v1 (j_k 0) (
      if (s_I τ3 v1 (j_k 0).toNatClampNeg) = 0 then none else
      j_c1 call 129 [.ref v0, .int x4, .int ((j_k 48) + ((s_I τ3 v1 ((j_k 45) + v3).toNatClampNeg) / (s_I τ3 v1 (j_k 0).toNatClampNeg)))] τ3 (fun x6 τ5 =>
      again 121 [some (.ref v0), some (.ref v1), some (.int x6), some (.int (v3 + (j_k 1))), none] [] τ5))))))))
     else if (s_I σ v1 ((j_k 41) + v3).toNatClampNeg) = (j_k 1) then (j_c1 call 129 [.ref v0, .int v2, .int (j_k 115)] σ (fun x8 τ7 =>
      j_ia τ7 v1 ((j_k 45) + v3) (
      j_ia τ7 v1 (j_k 0) (
      if (s_I τ7 v1 (j_k 0).toNatClampNeg) = 0 then none else
      j_c1 call 129 [.ref v0, .int x8, .int ((j_k 48) + ((s_I τ7 v1 ((j_k 45) + v3).toNatClampNeg) - (s_I τ7 v1 ((j_k 45) + v3).toNatClampNeg) / (s_I τ7 v1 (j_k 0).toNatClampNeg) * (s_I τ7 v1 (j_k 0).toNatClampNeg)))] τ7 (fun x10 τ9 =>
      j_ia τ9 v1 ((j_k 45) + v3) (
      j_ia τ9 v1 (j_k 0) (
      if (s_I τ9 v1 (j_k 0).toNatClampNeg) = 0 then none else
      j_c1 call 129 [.ref v0, .int x10, .int ((j_k 48) + ((s_I τ9 v1 ((j_k 45) + v3).toNatClampNeg) / (s_I τ9 v1 (j_k 0).toNatClampNeg)))] τ9 (fun x12 τ11 =>
      again 121 [some (.ref v0), some (.ref v1), some (.int x12), some (.int (v3 + (j_k 1))), none] [] τ11))))))))
     else if (s_I σ v1 ((j_k 41) + v3).toNatClampNeg) = (j_k 2) then (j_c1 call 129 [.ref v0, .int v2, .int (j_k 108)] σ (fun x14 τ13 =>
      j_ia τ13 v1 ((j_k 45) + v3) (
      j_ia τ13 v1 (j_k 0) (
      if (s_I τ13 v1 (j_k 0).toNatClampNeg) = 0 then none else
      j_c1 call 129 [.ref v0, .int x14, .int ((j_k 48) + ((s_I τ13 v1 ((j_k 45) + v3).toNatClampNeg) - (s_I τ13 v1 ((j_k 45) + v3).toNatClampNeg) / (s_I τ13 v1 (j_k 0).toNatClampNeg) * (s_I τ13 v1 (j_k 0).toNatClampNeg)))] τ13 (fun x16 τ15 =>
      j_ia τ15 v1 ((j_k 45) + v3) (
      j_ia τ15 v1 (j_k 0) (
      if (s_I τ15 v1 (j_k 0).toNatClampNeg) = 0 then none else
      j_c1 call 129 [.ref v0, .int x16, .int ((j_k 48) + ((s_I τ15 v1 ((j_k 45) + v3).toNatClampNeg) / (s_I τ15 v1 (j_k 0).toNatClampNeg)))] τ15 (fun x18 τ17 =>
      again 121 [some (.ref v0), some (.ref v1), some (.int x18), some (.int (v3 + (j_k 1))), none] [] τ17))))))))
     else if (s_I σ v1 ((j_k 41) + v3).toNatClampNeg) = (j_k 3) then (j_c1 call 129 [.ref v0, .int v2, .int (j_k 99)] σ (fun x20 τ19 =>
      j_ia τ19 v1 ((j_k 45) + v3) (
      j_ia τ19 v1 (j_k 0) (
      if (s_I τ19 v1 (j_k 0).toNatClampNeg) = 0 then none else
      j_c1 call 129 [.ref v0, .int x20, .int ((j_k 48) + ((s_I τ19 v1 ((j_k 45) + v3).toNatClampNeg) - (s_I τ19 v1 ((j_k 45) + v3).toNatClampNeg) / (s_I τ19 v1 (j_k 0).toNatClampNeg) * (s_I τ19 v1 (j_k 0).toNatClampNeg)))] τ19 (fun x22 τ21 =>
      j_ia τ21 v1 ((j_k 45) + v3) (
      j_ia τ21 v1 (j_k 0) (
      if (s_I τ21 v1 (j_k 0).toNatClampNeg) = 0 then none else
      j_c1 call 129 [.ref v0, .int x22, .int ((j_k 48) + ((s_I τ21 v1 ((j_k 45) + v3).toNatClampNeg) / (s_I τ21 v1 (j_k 0).toNatClampNeg)))] τ21 (fun x24 τ23 =>
      again 121 [some (.ref v0), some (.ref v1), some (.int x24), some (.int (v3 + (j_k 1))), none] [] τ23))))))))
     else if (s_I σ v1 ((j_k 41) + v3).toNatClampNeg) = (j_k 4) then (j_c1 call 129 [.ref v0, .int v2, .int (j_k 109)] σ (fun x26 τ25 =>
      j_ia τ25 v1 ((j_k 45) + v3) (
      j_ia τ25 v1 (j_k 0) (
      if (s_I τ25 v1 (j_k 0).toNatClampNeg) = 0 then none else
      j_c1 call 129 [.ref v0, .int x26, .int ((j_k 48) + ((s_I τ25 v1 ((j_k 45) + v3).toNatClampNeg) - (s_I τ25 v1 ((j_k 45) + v3).toNatClampNeg) / (s_I τ25 v1 (j_k 0).toNatClampNeg) * (s_I τ25 v1 (j_k 0).toNatClampNeg)))] τ25 (fun x28 τ27 =>
      j_ia τ27 v1 ((j_k 45) + v3) (
      j_ia τ27 v1 (j_k 0) (
      if (s_I τ27 v1 (j_k 0).toNatClampNeg) = 0 then none else
      j_c1 call 129 [.ref v0, .int x28, .int ((j_k 48) + ((s_I τ27 v1 ((j_k 45) + v3).toNatClampNeg) / (s_I τ27 v1 (j_k 0).toNatClampNeg)))] τ27 (fun x30 τ29 =>
      again 121 [some (.ref v0), some (.ref v1), some (.int x30), some (.int (v3 + (j_k 1))), none] [] τ29))))))))
     else j_c1 call 129 [.ref v0, .int v2, .int (j_k 116)] σ (fun x32 τ31 =>
     j_ia τ31 v1 ((j_k 45) + v3) (
     j_ia τ31 v1 (j_k 0) (
     if (s_I τ31 v1 (j_k 0).toNatClampNeg) = 0 then none else
     j_c1 call 129 [.ref v0, .int x32, .int ((j_k 48) + ((s_I τ31 v1 ((j_k 45) + v3).toNatClampNeg) - (s_I τ31 v1 ((j_k 45) + v3).toNatClampNeg) / (s_I τ31 v1 (j_k 0).toNatClampNeg) * (s_I τ31 v1 (j_k 0).toNatClampNeg)))] τ31 (fun x34 τ33 =>
     j_ia τ33 v1 ((j_k 45) + v3) (
     j_ia τ33 v1 (j_k 0) (
     if (s_I τ33 v1 (j_k 0).toNatClampNeg) = 0 then none else
     j_c1 call 129 [.ref v0, .int x34, .int ((j_k 48) + ((s_I τ33 v1 ((j_k 45) + v3).toNatClampNeg) / (s_I τ33 v1 (j_k 0).toNatClampNeg)))] τ33 (fun x36 τ35 =>
     again 121 [some (.ref v0), some (.ref v1), some (.int x36), some (.int (v3 + (j_k 1))), none] [] τ35)))))))))
    else if 0 < v2 then (j_oc σ 6 v0 (j_c1 call 77 [.ref v0, .int (j_k 3)] σ (fun x38 τ37 =>
     if x38 = (j_k (-9)) then (j_oc τ37 6 v0 (j_c1 call 78 [.ref v0, .int (j_k 3)] τ37 (fun x40 τ39 =>
      j_ia τ39 v1 (j_k 40) (
      if x40 = (s_I τ39 v1 (j_k 40).toNatClampNeg) then (if (j_k 1) = 0 ∨ (j_k 1) = 1 then some (some (.int (j_k 1)), τ39) else none)
      else if (j_k 0) = 0 ∨ (j_k 0) = 1 then some (some (.int (j_k 0)), τ39) else none))))
     else if (j_k 0) = 0 ∨ (j_k 0) = 1 then some (some (.int (j_k 0)), τ37) else none)))
    else if (j_k 0) = 0 ∨ (j_k 0) = 1 then some (some (.int (j_k 0)), σ) else none) := rfl

-- LastStirredLaw.off([III)I
set_option maxRecDepth 1000000 in
set_option maxHeartbeats 8000000 in
theorem t_132_0 (call : Nat → List Value → Sto → Option Rr) (again : Nat → j_L → List Value → Sto → Option Rr) (σ : Sto) (v0 : Nat) (v1 : Int32) (v2 : Int32) :
    j_seg k_132 h_132 call again 2000 0 [some (.ref v0), some (.int v1), some (.int v2), none, none] [] σ =
    j_ia σ v0 (j_k 0) (
    if (s_I σ v0 (j_k 0).toNatClampNeg) = 0 then none else
    j_ia σ v0 (j_k 0) (
    if (s_I σ v0 (j_k 0).toNatClampNeg) = 0 then none else
    j_ia σ v0 (j_k 0) (
    if (s_I σ v0 (j_k 0).toNatClampNeg) = 0 then none else
    j_ia σ v0 (j_k 0) (
    if (s_I σ v0 (j_k 0).toNatClampNeg) = 0 then none else
    if ((v1 - v1 / (s_I σ v0 (j_k 0).toNatClampNeg) * (s_I σ v0 (j_k 0).toNatClampNeg)) - (v2 - v2 / (s_I σ v0 (j_k 0).toNatClampNeg) * (s_I σ v0 (j_k 0).toNatClampNeg))) < 0 then (if ((v1 / (s_I σ v0 (j_k 0).toNatClampNeg)) - (v2 / (s_I σ v0 (j_k 0).toNatClampNeg))) < 0 then (some (some (.int ((-((v1 - v1 / (s_I σ v0 (j_k 0).toNatClampNeg) * (s_I σ v0 (j_k 0).toNatClampNeg)) - (v2 - v2 / (s_I σ v0 (j_k 0).toNatClampNeg) * (s_I σ v0 (j_k 0).toNatClampNeg)))) + (-((v1 / (s_I σ v0 (j_k 0).toNatClampNeg)) - (v2 / (s_I σ v0 (j_k 0).toNatClampNeg)))))), σ))
     else some (some (.int ((-((v1 - v1 / (s_I σ v0 (j_k 0).toNatClampNeg) * (s_I σ v0 (j_k 0).toNatClampNeg)) - (v2 - v2 / (s_I σ v0 (j_k 0).toNatClampNeg) * (s_I σ v0 (j_k 0).toNatClampNeg)))) + ((v1 / (s_I σ v0 (j_k 0).toNatClampNeg)) - (v2 / (s_I σ v0 (j_k 0).toNatClampNeg))))), σ))
    else if ((v1 / (s_I σ v0 (j_k 0).toNatClampNeg)) - (v2 / (s_I σ v0 (j_k 0).toNatClampNeg))) < 0 then (some (some (.int (((v1 - v1 / (s_I σ v0 (j_k 0).toNatClampNeg) * (s_I σ v0 (j_k 0).toNatClampNeg)) - (v2 - v2 / (s_I σ v0 (j_k 0).toNatClampNeg) * (s_I σ v0 (j_k 0).toNatClampNeg))) + (-((v1 / (s_I σ v0 (j_k 0).toNatClampNeg)) - (v2 / (s_I σ v0 (j_k 0).toNatClampNeg)))))), σ))
    else some (some (.int (((v1 - v1 / (s_I σ v0 (j_k 0).toNatClampNeg) * (s_I σ v0 (j_k 0).toNatClampNeg)) - (v2 - v2 / (s_I σ v0 (j_k 0).toNatClampNeg) * (s_I σ v0 (j_k 0).toNatClampNeg))) + ((v1 / (s_I σ v0 (j_k 0).toNatClampNeg)) - (v2 / (s_I σ v0 (j_k 0).toNatClampNeg))))), σ))))) := rfl

-- LastStirredLaw.tells(LLastStirred;I)I
set_option maxRecDepth 1000000 in
set_option maxHeartbeats 8000000 in
theorem t_133_0 (call : Nat → List Value → Sto → Option Rr) (again : Nat → j_L → List Value → Sto → Option Rr) (σ : Sto) (v0 : Nat) (v1 : Int32) :
    j_seg k_133 h_133 call again 2000 0 [some (.ref v0), some (.int v1)] [] σ =
    if v1 = (j_k 1) then (j_oc σ 6 v0 (j_c1 call 105 [.ref v0] σ (fun x2 τ1 =>
     some (some (.int x2), τ1))))
    else some (some (.int (j_k (-7777))), σ) := rfl

-- LastStirredLaw.rings(LLastStirred;)Z
set_option maxRecDepth 1000000 in
set_option maxHeartbeats 8000000 in
theorem t_134_0 (call : Nat → List Value → Sto → Option Rr) (again : Nat → j_L → List Value → Sto → Option Rr) (σ : Sto) (v0 : Nat) :
    j_seg k_134 h_134 call again 2000 0 [some (.ref v0), none, none, none, none, none, none, none, none] [] σ =
    j_oc σ 6 v0 (j_c1 call 87 [.ref v0] σ (fun x2 τ1 =>
    j_oc τ1 6 v0 (j_c1 call 105 [.ref v0] τ1 (fun x4 τ3 =>
    if x2 = (j_k (-9)) then (if (j_k 1) = 0 ∨ (j_k 1) = 1 then some (some (.int (j_k 1)), τ3) else none)
    else if x2 < x4 then (if (j_k 0) = 0 ∨ (j_k 0) = 1 then some (some (.int (j_k 0)), τ3) else none)
    else if x4 < (j_k 1) then (if (j_k 0) = 0 ∨ (j_k 0) = 1 then some (some (.int (j_k 0)), τ3) else none)
    else if (j_k 2) = 0 then none else
    if (x4 - x4 / (j_k 2) * (j_k 2)) = 0 then (if (j_k 200) < x2 then (if (j_k 0) = 0 ∨ (j_k 0) = 1 then some (some (.int (j_k 0)), τ3) else none)
     else again 47 [some (.ref v0), some (.int x2), some (.int x4), some (.int (x2 - x4)), none, none, none, none, none] [] τ3)
    else if (j_k 0) = 0 ∨ (j_k 0) = 1 then some (some (.int (j_k 0)), τ3) else none)))) := rfl

set_option maxRecDepth 1000000 in
set_option maxHeartbeats 8000000 in
theorem t_134_47 (call : Nat → List Value → Sto → Option Rr) (again : Nat → j_L → List Value → Sto → Option Rr) (σ : Sto) (v0 : Nat) (v1 : Int32) (v2 : Int32) (v3 : Int32) :
    j_seg k_134 h_134 call again 2000 47 [some (.ref v0), some (.int v1), some (.int v2), some (.int v3), none, none, none, none, none] [] σ =
    if 0 < v3 then (if (j_k 40) < v3 then (j_oc σ 6 v0 (j_c1 call 85 [.ref v0, .int (j_k 40)] σ (fun x2 τ1 =>
      if x2 < 0 then (if (j_k 0) = 0 ∨ (j_k 0) = 1 then some (some (.int (j_k 0)), τ1) else none)
      else again 47 [some (.ref v0), some (.int v1), some (.int v2), some (.int (v3 - (j_k 40))), none, none, none, none, none] [] τ1)))
     else j_oc σ 6 v0 (j_c1 call 85 [.ref v0, .int v3] σ (fun x4 τ3 =>
     if x4 < 0 then (if (j_k 0) = 0 ∨ (j_k 0) = 1 then some (some (.int (j_k 0)), τ3) else none)
     else again 47 [some (.ref v0), some (.int v1), some (.int v2), some (.int (v3 - v3)), none, none, none, none, none] [] τ3)))
    else j_oc σ 6 v0 (j_c1 call 88 [.ref v0, .int (j_k 1)] σ (fun x6 τ5 =>
    j_oc τ5 6 v0 (j_c1 call 83 [.ref v0] τ5 (fun x8 τ7 =>
    j_oc τ7 6 v0 (j_c1 call 105 [.ref v0] τ7 (fun x10 τ9 =>
    again 105 [some (.ref v0), some (.int v1), some (.int v2), some (.int v2), some (.int x6), some (.int x8), some (.int x10), none, none] [] τ9)))))) := rfl

set_option maxRecDepth 1000000 in
set_option maxHeartbeats 8000000 in
theorem t_134_105 (call : Nat → List Value → Sto → Option Rr) (again : Nat → j_L → List Value → Sto → Option Rr) (σ : Sto) (v0 : Nat) (v1 : Int32) (v2 : Int32) (v3 : Int32) (v4 : Int32) (v5 : Int32) (v6 : Int32) :
    j_seg k_134 h_134 call again 2000 105 [some (.ref v0), some (.int v1), some (.int v2), some (.int v3), some (.int v4), some (.int v5), some (.int v6), none, none] [] σ =
    if 0 < v3 then (if (j_k 40) < v3 then (j_oc σ 6 v0 (j_c1 call 85 [.ref v0, .int (j_k 40)] σ (fun x2 τ1 =>
      if x2 < 0 then (if (j_k 0) = 0 ∨ (j_k 0) = 1 then some (some (.int (j_k 0)), τ1) else none)
      else again 105 [some (.ref v0), some (.int v1), some (.int v2), some (.int (v3 - (j_k 40))), some (.int v4), some (.int v5), some (.int v6), none, none] [] τ1)))
     else j_oc σ 6 v0 (j_c1 call 85 [.ref v0, .int v3] σ (fun x4 τ3 =>
     if x4 < 0 then (if (j_k 0) = 0 ∨ (j_k 0) = 1 then some (some (.int (j_k 0)), τ3) else none)
     else again 105 [some (.ref v0), some (.int v1), some (.int v2), some (.int (v3 - v3)), some (.int v4), some (.int v5), some (.int v6), none, none] [] τ3)))
    else j_oc σ 6 v0 (j_c1 call 88 [.ref v0, .int (j_k 2)] σ (fun x6 τ5 =>
    if x6 = v4 then (j_oc τ5 6 v0 (j_c1 call 83 [.ref v0] τ5 (fun x8 τ7 =>
     if x8 = v5 then (j_oc τ7 6 v0 (j_c1 call 105 [.ref v0] τ7 (fun x10 τ9 =>
      if x10 = v6 then (again 175 [some (.ref v0), some (.int v1), some (.int v2), some (.int v3), some (.int v4), some (.int v5), some (.int v6), some (.int (j_k 0)), none] [] τ9)
      else if (j_k 0) = 0 ∨ (j_k 0) = 1 then some (some (.int (j_k 0)), τ9) else none)))
     else if (j_k 0) = 0 ∨ (j_k 0) = 1 then some (some (.int (j_k 0)), τ7) else none)))
    else if (j_k 0) = 0 ∨ (j_k 0) = 1 then some (some (.int (j_k 0)), τ5) else none)) := rfl

set_option maxRecDepth 1000000 in
set_option maxHeartbeats 8000000 in
theorem t_134_175 (call : Nat → List Value → Sto → Option Rr) (again : Nat → j_L → List Value → Sto → Option Rr) (σ : Sto) (v0 : Nat) (v1 : Int32) (v2 : Int32) (v3 : Int32) (v4 : Int32) (v5 : Int32) (v6 : Int32) (v7 : Int32) :
    j_seg k_134 h_134 call again 2000 175 [some (.ref v0), some (.int v1), some (.int v2), some (.int v3), some (.int v4), some (.int v5), some (.int v6), some (.int v7), none] [] σ =
    j_oc σ 6 v0 (j_c1 call 108 [.ref v0, .int (j_k 1)] σ (fun x2 τ1 =>
    if v7 < x2 then (j_oc τ1 6 v0 (j_c1 call 71 [.ref v0, .int (j_k 1), .int v7] τ1 (fun x4 τ3 =>
     if x4 = (j_k 1) then (j_oc τ3 6 v0 (j_c1 call 105 [.ref v0] τ3 (fun x6 τ5 =>
      j_oc τ5 6 v0 (j_c1 call 71 [.ref v0, .int (j_k 2), .int v7] τ5 (fun x8 τ7 =>
      if x8 = (j_k 1) then (j_oc τ7 6 v0 (j_c1 call 105 [.ref v0] τ7 (fun x10 τ9 =>
       if x10 = x6 then (again 175 [some (.ref v0), some (.int v1), some (.int v2), some (.int v3), some (.int v4), some (.int v5), some (.int v6), some (.int (v7 + (j_k 1))), none] [] τ9)
       else if (j_k 0) = 0 ∨ (j_k 0) = 1 then some (some (.int (j_k 0)), τ9) else none)))
      else if (j_k 0) = 0 ∨ (j_k 0) = 1 then some (some (.int (j_k 0)), τ7) else none)))))
     else if (j_k 0) = 0 ∨ (j_k 0) = 1 then some (some (.int (j_k 0)), τ3) else none)))
    else j_oc τ1 6 v0 (j_c1 call 72 [.ref v0, .int (j_k 1)] τ1 (fun x12 τ11 =>
    if x12 = (j_k 1) then (j_oc τ11 6 v0 (j_c1 call 72 [.ref v0, .int (j_k 2)] τ11 (fun x14 τ13 =>
     if x14 = (j_k 1) then (j_oc τ13 6 v0 (j_c1 call 91 [.ref v0, .int (j_k 0)] τ13 (fun x16 τ15 =>
      if x16 < 0 then (if (j_k 0) = 0 ∨ (j_k 0) = 1 then some (some (.int (j_k 0)), τ15) else none)
      else if (j_k 1) = 0 ∨ (j_k 1) = 1 then some (some (.int (j_k 1)), τ15) else none)))
     else if (j_k 0) = 0 ∨ (j_k 0) = 1 then some (some (.int (j_k 0)), τ13) else none)))
    else if (j_k 0) = 0 ∨ (j_k 0) = 1 then some (some (.int (j_k 0)), τ11) else none)))) := rfl

-- LastStirredLaw.drives(LLastStirred;I)Z
set_option maxRecDepth 1000000 in
set_option maxHeartbeats 8000000 in
theorem t_135_0 (call : Nat → List Value → Sto → Option Rr) (again : Nat → j_L → List Value → Sto → Option Rr) (σ : Sto) (v0 : Nat) (v1 : Int32) :
    j_seg k_135 h_135 call again 2000 0 [some (.ref v0), some (.int v1), none, none, none, none, none, none, none, none] [] σ =
    j_oc σ 6 v0 (j_c1 call 92 [.ref v0] σ (fun x2 τ1 =>
    j_oc τ1 6 v0 (j_c1 call 105 [.ref v0] τ1 (fun x4 τ3 =>
    if x2 < 0 then (j_oc τ3 6 v0 (j_c1 call 94 [.ref v0] τ3 (fun x6 τ5 =>
     j_oc τ5 6 v0 (j_c1 call 105 [.ref v0] τ5 (fun x8 τ7 =>
     j_oc τ7 6 v0 (j_c1 call 108 [.ref v0, .int (j_k 2)] τ7 (fun x10 τ9 =>
     if x6 < 0 then (j_oc τ9 6 v0 (j_c1 call 88 [.ref v0, .int (j_k 1)] τ9 (fun x12 τ11 =>
      if x12 = x10 then (j_oc τ11 6 v0 (j_c1 call 102 [.ref v0, .int (j_k 1)] τ11 (fun x14 τ13 =>
       if x14 = 0 then (j_oc τ13 6 v0 (j_c1 call 72 [.ref v0, .int (j_k 1)] τ13 (fun x16 τ15 =>
        if x16 = (j_k 1) then (if (j_k 1) = 0 ∨ (j_k 1) = 1 then some (some (.int (j_k 1)), τ15) else none)
        else if (j_k 0) = 0 ∨ (j_k 0) = 1 then some (some (.int (j_k 0)), τ15) else none)))
       else if (j_k 0) = 0 ∨ (j_k 0) = 1 then some (some (.int (j_k 0)), τ13) else none)))
      else if (j_k 0) = 0 ∨ (j_k 0) = 1 then some (some (.int (j_k 0)), τ11) else none)))
     else if (j_k 4) = 0 then none else
     if (j_k 4) = 0 then none else
     j_oc τ9 6 v0 (j_c1 call 84 [.ref v0, .int (x6 / (j_k 4)), .int (x6 - x6 / (j_k 4) * (j_k 4))] τ9 (fun x18 τ17 =>
     if x18 < 0 then (if (j_k 0) = 0 ∨ (j_k 0) = 1 then some (some (.int (j_k 0)), τ17) else none)
     else j_oc τ17 6 v0 (j_c1 call 86 [.ref v0] τ17 (fun x20 τ19 =>
     if x20 < (j_k 2) then (if (j_k 0) = 0 ∨ (j_k 0) = 1 then some (some (.int (j_k 0)), τ19) else none)
     else j_oc τ19 6 v0 (j_c1 call 89 [.ref v0] τ19 (fun x22 τ21 =>
     if x22 = x8 then (j_oc τ21 6 v0 (j_c1 call 108 [.ref v0, .int (j_k 2)] τ21 (fun x24 τ23 =>
      if x10 < x24 then (if (j_k 0) = 0 ∨ (j_k 0) = 1 then some (some (.int (j_k 0)), τ23) else none)
      else j_oc τ23 6 v0 (j_c1 call 88 [.ref v0, .int (j_k 1)] τ23 (fun x26 τ25 =>
      j_oc τ25 6 v0 (j_c1 call 108 [.ref v0, .int (j_k 2)] τ25 (fun x28 τ27 =>
      if x26 = x28 then (j_oc τ27 6 v0 (j_c1 call 91 [.ref v0, .int (j_k 0)] τ27 (fun x30 τ29 =>
       if x30 < 0 then (if (j_k 0) = 0 ∨ (j_k 0) = 1 then some (some (.int (j_k 0)), τ29) else none)
       else j_oc τ29 6 v0 (j_c1 call 102 [.ref v0, .int (j_k 1)] τ29 (fun x32 τ31 =>
       if x32 < 0 then (if (j_k 0) = 0 ∨ (j_k 0) = 1 then some (some (.int (j_k 0)), τ31) else none)
       else if (j_k 1) < x32 then (if (j_k 0) = 0 ∨ (j_k 0) = 1 then some (some (.int (j_k 0)), τ31) else none)
       else if x32 = (j_k 1) then (j_oc τ31 6 v0 (j_c1 call 103 [.ref v0, .int (j_k 1)] τ31 (fun x34 τ33 =>
        j_oc τ33 6 v0 (j_c1 call 105 [.ref v0] τ33 (fun x36 τ35 =>
        if (j_k 4) = 0 then none else
        if ((x34 >>> ((x6 / (j_k 4)) &&& 31)) &&& (j_k 1)) = (j_k 1) then (if (j_k 4) = 0 then none else
         if ((x36 >>> ((x6 - x6 / (j_k 4) * (j_k 4)) &&& 31)) &&& (j_k 1)) = (j_k 1) then (j_oc τ35 6 v0 (j_c1 call 72 [.ref v0, .int (j_k 1)] τ35 (fun x38 τ37 =>
          if x38 = (j_k 1) then (j_oc τ37 6 v0 (j_c1 call 88 [.ref v0, .int (j_k 1)] τ37 (fun x40 τ39 =>
           if x40 = x10 then (j_oc τ39 6 v0 (j_c1 call 102 [.ref v0, .int (j_k 1)] τ39 (fun x42 τ41 =>
            if x42 = 0 then (j_oc τ41 6 v0 (j_c1 call 72 [.ref v0, .int (j_k 1)] τ41 (fun x44 τ43 =>
             if x44 = (j_k 1) then (if (j_k 1) = 0 ∨ (j_k 1) = 1 then some (some (.int (j_k 1)), τ43) else none)
             else if (j_k 0) = 0 ∨ (j_k 0) = 1 then some (some (.int (j_k 0)), τ43) else none)))
            else if (j_k 0) = 0 ∨ (j_k 0) = 1 then some (some (.int (j_k 0)), τ41) else none)))
           else if (j_k 0) = 0 ∨ (j_k 0) = 1 then some (some (.int (j_k 0)), τ39) else none)))
          else if (j_k 0) = 0 ∨ (j_k 0) = 1 then some (some (.int (j_k 0)), τ37) else none)))
         else if (j_k 0) = 0 ∨ (j_k 0) = 1 then some (some (.int (j_k 0)), τ35) else none)
        else if (j_k 0) = 0 ∨ (j_k 0) = 1 then some (some (.int (j_k 0)), τ35) else none)))))
       else j_oc τ31 6 v0 (j_c1 call 72 [.ref v0, .int (j_k 1)] τ31 (fun x46 τ45 =>
       if x46 = (j_k 1) then (j_oc τ45 6 v0 (j_c1 call 88 [.ref v0, .int (j_k 1)] τ45 (fun x48 τ47 =>
        if x48 = x10 then (j_oc τ47 6 v0 (j_c1 call 102 [.ref v0, .int (j_k 1)] τ47 (fun x50 τ49 =>
         if x50 = 0 then (j_oc τ49 6 v0 (j_c1 call 72 [.ref v0, .int (j_k 1)] τ49 (fun x52 τ51 =>
          if x52 = (j_k 1) then (if (j_k 1) = 0 ∨ (j_k 1) = 1 then some (some (.int (j_k 1)), τ51) else none)
          else if (j_k 0) = 0 ∨ (j_k 0) = 1 then some (some (.int (j_k 0)), τ51) else none)))
         else if (j_k 0) = 0 ∨ (j_k 0) = 1 then some (some (.int (j_k 0)), τ49) else none)))
        else if (j_k 0) = 0 ∨ (j_k 0) = 1 then some (some (.int (j_k 0)), τ47) else none)))
       else if (j_k 0) = 0 ∨ (j_k 0) = 1 then some (some (.int (j_k 0)), τ45) else none)))))))
      else if (j_k 0) = 0 ∨ (j_k 0) = 1 then some (some (.int (j_k 0)), τ27) else none)))))))
     else if (j_k 0) = 0 ∨ (j_k 0) = 1 then some (some (.int (j_k 0)), τ21) else none)))))))))))))
    else again 19 [some (.ref v0), some (.int v1), some (.int x2), some (.int x4), some (.int (x2 - (j_k 1))), none, none, none, none, none] [] τ3)))) := rfl

set_option maxRecDepth 1000000 in
set_option maxHeartbeats 8000000 in
theorem t_135_19 (call : Nat → List Value → Sto → Option Rr) (again : Nat → j_L → List Value → Sto → Option Rr) (σ : Sto) (v0 : Nat) (v1 : Int32) (v2 : Int32) (v3 : Int32) (v4 : Int32) :
    j_seg k_135 h_135 call again 2000 19 [some (.ref v0), some (.int v1), some (.int v2), some (.int v3), some (.int v4), none, none, none, none, none] [] σ =
    if v4 < 0 then (again 94 [some (.ref v0), some (.int v1), some (.int v2), some (.int v3), some (.int (j_k 0)), none, none, none, none, none] [] σ)
    else if v4 = (j_k 2) then (if (j_k 256) = 0 then none else
     if (j_k 4) = 0 then none else
     if (j_k 4) = 0 then none else
     j_oc σ 6 v0 (j_c1 call 84 [.ref v0, .int ((v3 / (j_k 256)) / (j_k 4)), .int ((v3 / (j_k 256)) - (v3 / (j_k 256)) / (j_k 4) * (j_k 4))] σ (fun x2 τ1 =>
     if x2 < 0 then (if (j_k 0) = 0 ∨ (j_k 0) = 1 then some (some (.int (j_k 0)), τ1) else none)
     else j_oc τ1 6 v0 (j_c1 call 86 [.ref v0] τ1 (fun x4 τ3 =>
     if x4 < (j_k 2) then (if (j_k 0) = 0 ∨ (j_k 0) = 1 then some (some (.int (j_k 0)), τ3) else none)
     else again 19 [some (.ref v0), some (.int v1), some (.int v2), some (.int v3), some (.int (v4 + (j_k (-1)))), none, none, none, none, none] [] τ3)))))
    else if v4 = (j_k 1) then (if (j_k 16) = 0 then none else
     if (j_k 16) = 0 then none else
     if (j_k 4) = 0 then none else
     if (j_k 4) = 0 then none else
     j_oc σ 6 v0 (j_c1 call 84 [.ref v0, .int (((v3 / (j_k 16)) - (v3 / (j_k 16)) / (j_k 16) * (j_k 16)) / (j_k 4)), .int (((v3 / (j_k 16)) - (v3 / (j_k 16)) / (j_k 16) * (j_k 16)) - ((v3 / (j_k 16)) - (v3 / (j_k 16)) / (j_k 16) * (j_k 16)) / (j_k 4) * (j_k 4))] σ (fun x6 τ5 =>
     if x6 < 0 then (if (j_k 0) = 0 ∨ (j_k 0) = 1 then some (some (.int (j_k 0)), τ5) else none)
     else j_oc τ5 6 v0 (j_c1 call 86 [.ref v0] τ5 (fun x8 τ7 =>
     if x8 < (j_k 2) then (if (j_k 0) = 0 ∨ (j_k 0) = 1 then some (some (.int (j_k 0)), τ7) else none)
     else again 19 [some (.ref v0), some (.int v1), some (.int v2), some (.int v3), some (.int (v4 + (j_k (-1)))), none, none, none, none, none] [] τ7)))))
    else if (j_k 16) = 0 then none else
    if (j_k 4) = 0 then none else
    if (j_k 4) = 0 then none else
    j_oc σ 6 v0 (j_c1 call 84 [.ref v0, .int ((v3 - v3 / (j_k 16) * (j_k 16)) / (j_k 4)), .int ((v3 - v3 / (j_k 16) * (j_k 16)) - (v3 - v3 / (j_k 16) * (j_k 16)) / (j_k 4) * (j_k 4))] σ (fun x10 τ9 =>
    if x10 < 0 then (if (j_k 0) = 0 ∨ (j_k 0) = 1 then some (some (.int (j_k 0)), τ9) else none)
    else j_oc τ9 6 v0 (j_c1 call 86 [.ref v0] τ9 (fun x12 τ11 =>
    if x12 < (j_k 2) then (if (j_k 0) = 0 ∨ (j_k 0) = 1 then some (some (.int (j_k 0)), τ11) else none)
    else again 19 [some (.ref v0), some (.int v1), some (.int v2), some (.int v3), some (.int (v4 + (j_k (-1)))), none, none, none, none, none] [] τ11)))) := rfl

set_option maxRecDepth 1000000 in
set_option maxHeartbeats 8000000 in
theorem t_135_94 (call : Nat → List Value → Sto → Option Rr) (again : Nat → j_L → List Value → Sto → Option Rr) (σ : Sto) (v0 : Nat) (v1 : Int32) (v2 : Int32) (v3 : Int32) (v4 : Int32) :
    j_seg k_135 h_135 call again 2000 94 [some (.ref v0), some (.int v1), some (.int v2), some (.int v3), some (.int v4), none, none, none, none, none] [] σ =
    if v4 < v1 then (j_oc σ 6 v0 (j_c1 call 81 [.ref v0, .int v4, .int (j_k 1)] σ (fun x2 τ1 =>
     j_c1 call 133 [.ref v0, .int x2] τ1 (fun x4 τ3 =>
     if x4 < 0 then (if (j_k 0) = 0 ∨ (j_k 0) = 1 then some (some (.int (j_k 0)), τ3) else none)
     else j_oc τ3 6 v0 (j_c1 call 79 [.ref v0, .int x4] τ3 (fun x6 τ5 =>
     if x6 = (j_k 3) then (again 94 [some (.ref v0), some (.int v1), some (.int v2), some (.int v3), some (.int (v4 + (j_k 1))), none, none, none, none, none] [] τ5)
     else if (j_k 0) = 0 ∨ (j_k 0) = 1 then some (some (.int (j_k 0)), τ5) else none))))))
    else j_oc σ 6 v0 (j_c1 call 92 [.ref v0] σ (fun x8 τ7 =>
    if x8 = 0 then (j_oc τ7 6 v0 (j_c1 call 108 [.ref v0, .int (j_k 2)] τ7 (fun x10 τ9 =>
     if x10 = 0 then (j_oc τ9 6 v0 (j_c1 call 91 [.ref v0, .int (j_k 0)] τ9 (fun x12 τ11 =>
      if x12 < 0 then (if (j_k 0) = 0 ∨ (j_k 0) = 1 then some (some (.int (j_k 0)), τ11) else none)
      else j_oc τ11 6 v0 (j_c1 call 94 [.ref v0] τ11 (fun x14 τ13 =>
      j_oc τ13 6 v0 (j_c1 call 105 [.ref v0] τ13 (fun x16 τ15 =>
      j_oc τ15 6 v0 (j_c1 call 108 [.ref v0, .int (j_k 2)] τ15 (fun x18 τ17 =>
      if x14 < 0 then (j_oc τ17 6 v0 (j_c1 call 88 [.ref v0, .int (j_k 1)] τ17 (fun x20 τ19 =>
       if x20 = x18 then (j_oc τ19 6 v0 (j_c1 call 102 [.ref v0, .int (j_k 1)] τ19 (fun x22 τ21 =>
        if x22 = 0 then (j_oc τ21 6 v0 (j_c1 call 72 [.ref v0, .int (j_k 1)] τ21 (fun x24 τ23 =>
         if x24 = (j_k 1) then (if (j_k 1) = 0 ∨ (j_k 1) = 1 then some (some (.int (j_k 1)), τ23) else none)
         else if (j_k 0) = 0 ∨ (j_k 0) = 1 then some (some (.int (j_k 0)), τ23) else none)))
        else if (j_k 0) = 0 ∨ (j_k 0) = 1 then some (some (.int (j_k 0)), τ21) else none)))
       else if (j_k 0) = 0 ∨ (j_k 0) = 1 then some (some (.int (j_k 0)), τ19) else none)))
      else if (j_k 4) = 0 then none else
      if (j_k 4) = 0 then none else
      j_oc τ17 6 v0 (j_c1 call 84 [.ref v0, .int (x14 / (j_k 4)), .int (x14 - x14 / (j_k 4) * (j_k 4))] τ17 (fun x26 τ25 =>
      if x26 < 0 then (if (j_k 0) = 0 ∨ (j_k 0) = 1 then some (some (.int (j_k 0)), τ25) else none)
      else j_oc τ25 6 v0 (j_c1 call 86 [.ref v0] τ25 (fun x28 τ27 =>
      if x28 < (j_k 2) then (if (j_k 0) = 0 ∨ (j_k 0) = 1 then some (some (.int (j_k 0)), τ27) else none)
      else j_oc τ27 6 v0 (j_c1 call 89 [.ref v0] τ27 (fun x30 τ29 =>
      if x30 = x16 then (j_oc τ29 6 v0 (j_c1 call 108 [.ref v0, .int (j_k 2)] τ29 (fun x32 τ31 =>
       if x18 < x32 then (if (j_k 0) = 0 ∨ (j_k 0) = 1 then some (some (.int (j_k 0)), τ31) else none)
       else j_oc τ31 6 v0 (j_c1 call 88 [.ref v0, .int (j_k 1)] τ31 (fun x34 τ33 =>
       j_oc τ33 6 v0 (j_c1 call 108 [.ref v0, .int (j_k 2)] τ33 (fun x36 τ35 =>
       if x34 = x36 then (j_oc τ35 6 v0 (j_c1 call 91 [.ref v0, .int (j_k 0)] τ35 (fun x38 τ37 =>
        if x38 < 0 then (if (j_k 0) = 0 ∨ (j_k 0) = 1 then some (some (.int (j_k 0)), τ37) else none)
        else j_oc τ37 6 v0 (j_c1 call 102 [.ref v0, .int (j_k 1)] τ37 (fun x40 τ39 =>
        if x40 < 0 then (if (j_k 0) = 0 ∨ (j_k 0) = 1 then some (some (.int (j_k 0)), τ39) else none)
        else if (j_k 1) < x40 then (if (j_k 0) = 0 ∨ (j_k 0) = 1 then some (some (.int (j_k 0)), τ39) else none)
        else if x40 = (j_k 1) then (j_oc τ39 6 v0 (j_c1 call 103 [.ref v0, .int (j_k 1)] τ39 (fun x42 τ41 =>
         j_oc τ41 6 v0 (j_c1 call 105 [.ref v0] τ41 (fun x44 τ43 =>
         if (j_k 4) = 0 then none else
         if ((x42 >>> ((x14 / (j_k 4)) &&& 31)) &&& (j_k 1)) = (j_k 1) then (if (j_k 4) = 0 then none else
          if ((x44 >>> ((x14 - x14 / (j_k 4) * (j_k 4)) &&& 31)) &&& (j_k 1)) = (j_k 1) then (j_oc τ43 6 v0 (j_c1 call 72 [.ref v0, .int (j_k 1)] τ43 (fun x46 τ45 =>
           if x46 = (j_k 1) then (j_oc τ45 6 v0 (j_c1 call 88 [.ref v0, .int (j_k 1)] τ45 (fun x48 τ47 =>
            if x48 = x18 then (j_oc τ47 6 v0 (j_c1 call 102 [.ref v0, .int (j_k 1)] τ47 (fun x50 τ49 =>
             if x50 = 0 then (j_oc τ49 6 v0 (j_c1 call 72 [.ref v0, .int (j_k 1)] τ49 (fun x52 τ51 =>
              if x52 = (j_k 1) then (if (j_k 1) = 0 ∨ (j_k 1) = 1 then some (some (.int (j_k 1)), τ51) else none)
              else if (j_k 0) = 0 ∨ (j_k 0) = 1 then some (some (.int (j_k 0)), τ51) else none)))
             else if (j_k 0) = 0 ∨ (j_k 0) = 1 then some (some (.int (j_k 0)), τ49) else none)))
            else if (j_k 0) = 0 ∨ (j_k 0) = 1 then some (some (.int (j_k 0)), τ47) else none)))
           else if (j_k 0) = 0 ∨ (j_k 0) = 1 then some (some (.int (j_k 0)), τ45) else none)))
          else if (j_k 0) = 0 ∨ (j_k 0) = 1 then some (some (.int (j_k 0)), τ43) else none)
         else if (j_k 0) = 0 ∨ (j_k 0) = 1 then some (some (.int (j_k 0)), τ43) else none)))))
        else j_oc τ39 6 v0 (j_c1 call 72 [.ref v0, .int (j_k 1)] τ39 (fun x54 τ53 =>
        if x54 = (j_k 1) then (j_oc τ53 6 v0 (j_c1 call 88 [.ref v0, .int (j_k 1)] τ53 (fun x56 τ55 =>
         if x56 = x18 then (j_oc τ55 6 v0 (j_c1 call 102 [.ref v0, .int (j_k 1)] τ55 (fun x58 τ57 =>
          if x58 = 0 then (j_oc τ57 6 v0 (j_c1 call 72 [.ref v0, .int (j_k 1)] τ57 (fun x60 τ59 =>
           if x60 = (j_k 1) then (if (j_k 1) = 0 ∨ (j_k 1) = 1 then some (some (.int (j_k 1)), τ59) else none)
           else if (j_k 0) = 0 ∨ (j_k 0) = 1 then some (some (.int (j_k 0)), τ59) else none)))
          else if (j_k 0) = 0 ∨ (j_k 0) = 1 then some (some (.int (j_k 0)), τ57) else none)))
         else if (j_k 0) = 0 ∨ (j_k 0) = 1 then some (some (.int (j_k 0)), τ55) else none)))
        else if (j_k 0) = 0 ∨ (j_k 0) = 1 then some (some (.int (j_k 0)), τ53) else none)))))))
       else if (j_k 0) = 0 ∨ (j_k 0) = 1 then some (some (.int (j_k 0)), τ35) else none)))))))
      else if (j_k 0) = 0 ∨ (j_k 0) = 1 then some (some (.int (j_k 0)), τ29) else none)))))))))))))))
     else if (j_k 0) = 0 ∨ (j_k 0) = 1 then some (some (.int (j_k 0)), τ9) else none)))
    else if (j_k 0) = 0 ∨ (j_k 0) = 1 then some (some (.int (j_k 0)), τ7) else none)) := rfl

-- LastStirredLaw.runs(LLastStirred;I)Z
set_option maxRecDepth 1000000 in
set_option maxHeartbeats 8000000 in
theorem t_136_0 (call : Nat → List Value → Sto → Option Rr) (again : Nat → j_L → List Value → Sto → Option Rr) (σ : Sto) (v0 : Nat) (v1 : Int32) :
    j_seg k_136 h_136 call again 2000 0 [some (.ref v0), some (.int v1), none, none, none, none, none, none] [] σ =
    j_oc σ 6 v0 (j_c1 call 108 [.ref v0, .int (j_k 3)] σ (fun x2 τ1 =>
    j_oc τ1 6 v0 (j_c1 call 86 [.ref v0] τ1 (fun x4 τ3 =>
    j_oc τ3 6 v0 (j_c1 call 105 [.ref v0] τ3 (fun x6 τ5 =>
    j_oc τ5 6 v0 (j_c1 call 83 [.ref v0] τ5 (fun x8 τ7 =>
    if x4 < (j_k 2) then (if (j_k 0) = 0 ∨ (j_k 0) = 1 then some (some (.int (j_k 0)), τ7) else none)
    else if (j_k 40) < x4 then (if (j_k 0) = 0 ∨ (j_k 0) = 1 then some (some (.int (j_k 0)), τ7) else none)
    else j_oc τ7 6 v0 (j_c1 call 108 [.ref v0, .int (j_k 3)] τ7 (fun x10 τ9 =>
    if x10 = (x2 + x4) then (if x6 = 0 then (if x4 = (j_k 40) then (j_oc τ9 6 v0 (j_c1 call 88 [.ref v0, .int (j_k 1)] τ9 (fun x12 τ11 =>
       j_oc τ11 6 v0 (j_c1 call 108 [.ref v0, .int (j_k 2)] τ11 (fun x14 τ13 =>
       if x12 = x14 then (if x6 = (j_k 1) then (j_oc τ13 6 v0 (j_c1 call 85 [.ref v0, .int (j_k 2)] τ13 (fun x16 τ15 =>
         if x16 = 0 then (j_oc τ15 6 v0 (j_c1 call 83 [.ref v0] τ15 (fun x18 τ17 =>
          if x18 = x8 then (j_oc τ17 6 v0 (j_c1 call 91 [.ref v0, .int (j_k 0)] τ17 (fun x20 τ19 =>
           if x20 = x2 then (again 110 [some (.ref v0), some (.int v1), some (.int x2), some (.int x4), some (.int x6), some (.int x8), some (.int (j_k 0)), none] [] τ19)
           else if (j_k 0) = 0 ∨ (j_k 0) = 1 then some (some (.int (j_k 0)), τ19) else none)))
          else if (j_k 0) = 0 ∨ (j_k 0) = 1 then some (some (.int (j_k 0)), τ17) else none)))
         else if (j_k 0) = 0 ∨ (j_k 0) = 1 then some (some (.int (j_k 0)), τ15) else none)))
        else j_oc τ13 6 v0 (j_c1 call 91 [.ref v0, .int (j_k 0)] τ13 (fun x22 τ21 =>
        if x22 = x2 then (again 110 [some (.ref v0), some (.int v1), some (.int x2), some (.int x4), some (.int x6), some (.int x8), some (.int (j_k 0)), none] [] τ21)
        else if (j_k 0) = 0 ∨ (j_k 0) = 1 then some (some (.int (j_k 0)), τ21) else none)))
       else if (j_k 0) = 0 ∨ (j_k 0) = 1 then some (some (.int (j_k 0)), τ13) else none)))))
      else if (j_k 0) = 0 ∨ (j_k 0) = 1 then some (some (.int (j_k 0)), τ9) else none)
     else j_oc τ9 6 v0 (j_c1 call 88 [.ref v0, .int (j_k 1)] τ9 (fun x24 τ23 =>
     j_oc τ23 6 v0 (j_c1 call 108 [.ref v0, .int (j_k 2)] τ23 (fun x26 τ25 =>
     if x24 = x26 then (if x6 = (j_k 1) then (j_oc τ25 6 v0 (j_c1 call 85 [.ref v0, .int (j_k 2)] τ25 (fun x28 τ27 =>
       if x28 = 0 then (j_oc τ27 6 v0 (j_c1 call 83 [.ref v0] τ27 (fun x30 τ29 =>
        if x30 = x8 then (j_oc τ29 6 v0 (j_c1 call 91 [.ref v0, .int (j_k 0)] τ29 (fun x32 τ31 =>
         if x32 = x2 then (again 110 [some (.ref v0), some (.int v1), some (.int x2), some (.int x4), some (.int x6), some (.int x8), some (.int (j_k 0)), none] [] τ31)
         else if (j_k 0) = 0 ∨ (j_k 0) = 1 then some (some (.int (j_k 0)), τ31) else none)))
        else if (j_k 0) = 0 ∨ (j_k 0) = 1 then some (some (.int (j_k 0)), τ29) else none)))
       else if (j_k 0) = 0 ∨ (j_k 0) = 1 then some (some (.int (j_k 0)), τ27) else none)))
      else j_oc τ25 6 v0 (j_c1 call 91 [.ref v0, .int (j_k 0)] τ25 (fun x34 τ33 =>
      if x34 = x2 then (again 110 [some (.ref v0), some (.int v1), some (.int x2), some (.int x4), some (.int x6), some (.int x8), some (.int (j_k 0)), none] [] τ33)
      else if (j_k 0) = 0 ∨ (j_k 0) = 1 then some (some (.int (j_k 0)), τ33) else none)))
     else if (j_k 0) = 0 ∨ (j_k 0) = 1 then some (some (.int (j_k 0)), τ25) else none)))))
    else if (j_k 0) = 0 ∨ (j_k 0) = 1 then some (some (.int (j_k 0)), τ9) else none)))))))))) := rfl

set_option maxRecDepth 1000000 in
set_option maxHeartbeats 8000000 in
theorem t_136_110 (call : Nat → List Value → Sto → Option Rr) (again : Nat → j_L → List Value → Sto → Option Rr) (σ : Sto) (v0 : Nat) (v1 : Int32) (v2 : Int32) (v3 : Int32) (v4 : Int32) (v5 : Int32) (v6 : Int32) :
    j_seg k_136 h_136 call again 2000 110 [some (.ref v0), some (.int v1), some (.int v2), some (.int v3), some (.int v4), some (.int v5), some (.int v6), none] [] σ =
    if v6 < v3 then (j_oc σ 6 v0 (j_c1 call 85 [.ref v0, .int (j_k 1)] σ (fun x2 τ1 =>
     if x2 < 0 then (if (j_k 0) = 0 ∨ (j_k 0) = 1 then some (some (.int (j_k 0)), τ1) else none)
     else again 110 [some (.ref v0), some (.int v1), some (.int v2), some (.int v3), some (.int v4), some (.int v5), some (.int (v6 + (j_k 1))), none] [] τ1)))
    else again 135 [some (.ref v0), some (.int v1), some (.int v2), some (.int v3), some (.int v4), some (.int v5), some (.int (j_k 0)), none] [] σ := rfl

set_option maxRecDepth 1000000 in
set_option maxHeartbeats 8000000 in
theorem t_136_135 (call : Nat → List Value → Sto → Option Rr) (again : Nat → j_L → List Value → Sto → Option Rr) (σ : Sto) (v0 : Nat) (v1 : Int32) (v2 : Int32) (v3 : Int32) (v4 : Int32) (v5 : Int32) (v6 : Int32) :
    j_seg k_136 h_136 call again 2000 135 [some (.ref v0), some (.int v1), some (.int v2), some (.int v3), some (.int v4), some (.int v5), some (.int v6), none] [] σ =
    if v6 < v1 then (j_oc σ 6 v0 (j_c1 call 81 [.ref v0, .int v6, .int (j_k 1)] σ (fun x2 τ1 =>
     j_c1 call 133 [.ref v0, .int x2] τ1 (fun x4 τ3 =>
     j_oc τ3 6 v0 (j_c1 call 71 [.ref v0, .int (j_k 1), .int v6] τ3 (fun x6 τ5 =>
     if x6 = (j_k 1) then (j_oc τ5 6 v0 (j_c1 call 105 [.ref v0] τ5 (fun x8 τ7 =>
      if x8 = x4 then (again 135 [some (.ref v0), some (.int v1), some (.int v2), some (.int v3), some (.int v4), some (.int v5), some (.int (v6 + (j_k 1))), none] [] τ7)
      else if (j_k 0) = 0 ∨ (j_k 0) = 1 then some (some (.int (j_k 0)), τ7) else none)))
     else if (j_k 0) = 0 ∨ (j_k 0) = 1 then some (some (.int (j_k 0)), τ5) else none))))))
    else j_oc σ 6 v0 (j_c1 call 72 [.ref v0, .int (j_k 1)] σ (fun x10 τ9 =>
    if x10 = (j_k 1) then (if (j_k 1) = 0 ∨ (j_k 1) = 1 then some (some (.int (j_k 1)), τ9) else none)
    else if (j_k 0) = 0 ∨ (j_k 0) = 1 then some (some (.int (j_k 0)), τ9) else none)) := rfl

