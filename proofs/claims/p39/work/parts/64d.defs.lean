def f_L_isKey_J193 (kx15 : Int32 → Int32 → Int32 → Int32 → Int32 → Int32 → tD_ → tS_ → tV_ → tF_ → tR_ → tI_ → tI_ → Option (Int32)) (kl15 : Int32 → Int32 → Int32 → Int32 → Int32 → Int32 → tD_ → tS_ → tV_ → tF_ → tR_ → tI_ → tI_ → Option (Int32)) (l1 : Int32) (l4 : Int32) (l5 : Int32) (l6 : Int32) (l7 : Int32) (l8 : Int32) (l9 : Int32) (l10 : Int32) (k0_ : Int32) (k1_ : Int32) (D_ : tD_) (S_ : tS_) (V_ : tV_) (F_ : tF_) (R_ : tR_) (yv : tI_) (wv : tI_) : Option (Int32) :=
match D_ with
| (dhasSaved, dkeptError, dmoved) =>
match V_ with
| (vkeys, vfirsts, vends, vvalues, vinferred, vgone, vmade) =>
match F_ with
| (fkeys, fdays, famounts, fversions, fcount) =>
match R_ with
| (rkeys, rdays, rvalues, rcount) =>
if k0_ = k1_ then
bd_ (f_X5_validOn l1 l8 (dhasSaved, dkeptError, dmoved) () (vkeys, vfirsts, vends, vvalues, vinferred, vgone, vmade) (fkeys, fdays, famounts, fversions, fcount) (rkeys, rdays, rvalues, rcount)) (fun x139 =>
match x139 with
| Except.error E147 => none
| Except.ok r140 =>
if r140 = l9 then
bd_ (f_X5_validOn l1 (l10 - 1) (dhasSaved, dkeptError, dmoved) () (vkeys, vfirsts, vends, vvalues, vinferred, vgone, vmade) (fkeys, fdays, famounts, fversions, fcount) (rkeys, rdays, rvalues, rcount)) (fun x149 =>
match x149 with
| Except.error E157 => none
| Except.ok r150 =>
if r150 = l9 then
kl15 l1 (l4 + 1) l5 l6 l7 (l8 + 1) (dhasSaved, dkeptError, dmoved) () (vkeys, vfirsts, vends, vvalues, vinferred, vgone, vmade) (fkeys, fdays, famounts, fversions, fcount) (rkeys, rdays, rvalues, rcount) yv wv
else
some (-1 : Int32))
else
some (-1 : Int32))
else
some (-1 : Int32)
def f_L_isKey_J92 (kx15 : Int32 → Int32 → Int32 → Int32 → Int32 → Int32 → tD_ → tS_ → tV_ → tF_ → tR_ → tI_ → tI_ → Option (Int32)) (kl15 : Int32 → Int32 → Int32 → Int32 → Int32 → Int32 → tD_ → tS_ → tV_ → tF_ → tR_ → tI_ → tI_ → Option (Int32)) (l1 : Int32) (l4 : Int32) (l5 : Int32) (l6 : Int32) (l7 : Int32) (l8 : Int32) (l9 : Int32) (l10 : Int32) (D_ : tD_) (S_ : tS_) (V_ : tV_) (F_ : tF_) (R_ : tR_) (yv : tI_) (wv : tI_) : Option (Int32) :=
match D_ with
| (dhasSaved, dkeptError, dmoved) =>
match V_ with
| (vkeys, vfirsts, vends, vvalues, vinferred, vgone, vmade) =>
match F_ with
| (fkeys, fdays, famounts, fversions, fcount) =>
match R_ with
| (rkeys, rdays, rvalues, rcount) =>
bd_ (f_X5_versionAt l1 l4 (dhasSaved, dkeptError, dmoved) () (vkeys, vfirsts, vends, vvalues, vinferred, vgone, vmade) (fkeys, fdays, famounts, fversions, fcount) (rkeys, rdays, rvalues, rcount)) (fun x66 =>
match x66 with
| Except.error E74 => none
| Except.ok r67 =>
if r67 = l9 then
bd_ (f_X5_version l9 (0 : Int32) (dhasSaved, dkeptError, dmoved) () (vkeys, vfirsts, vends, vvalues, vinferred, vgone, vmade) (fkeys, fdays, famounts, fversions, fcount) (rkeys, rdays, rvalues, rcount)) (fun x76 =>
match x76 with
| Except.error E84 => none
| Except.ok r77 =>
if r77 = l1 then
bd_ (f_X5_version l9 (1 : Int32) (dhasSaved, dkeptError, dmoved) () (vkeys, vfirsts, vends, vvalues, vinferred, vgone, vmade) (fkeys, fdays, famounts, fversions, fcount) (rkeys, rdays, rvalues, rcount)) (fun x86 =>
match x86 with
| Except.error E94 => none
| Except.ok r87 =>
if r87 = l8 then
bd_ (f_X5_version l9 (2 : Int32) (dhasSaved, dkeptError, dmoved) () (vkeys, vfirsts, vends, vvalues, vinferred, vgone, vmade) (fkeys, fdays, famounts, fversions, fcount) (rkeys, rdays, rvalues, rcount)) (fun x96 =>
match x96 with
| Except.error E104 => none
| Except.ok r97 =>
if r97 = l10 then
bd_ (f_X5_version l9 (5 : Int32) (dhasSaved, dkeptError, dmoved) () (vkeys, vfirsts, vends, vvalues, vinferred, vgone, vmade) (fkeys, fdays, famounts, fversions, fcount) (rkeys, rdays, rvalues, rcount)) (fun x106 =>
match x106 with
| Except.error E114 => none
| Except.ok r107 =>
if r107 = (l10 - l8) then
bd_ (f_X5_version l9 (3 : Int32) (dhasSaved, dkeptError, dmoved) () (vkeys, vfirsts, vends, vvalues, vinferred, vgone, vmade) (fkeys, fdays, famounts, fversions, fcount) (rkeys, rdays, rvalues, rcount)) (fun x116 =>
match x116 with
| Except.error E124 => none
| Except.ok r117 =>
gd_ (3 * l9) 180 (
if r117 = (wv (3 * l9).toNatClampNeg) then
bd_ (f_X5_isInferred l9 (dhasSaved, dkeptError, dmoved) () (vkeys, vfirsts, vends, vvalues, vinferred, vgone, vmade) (fkeys, fdays, famounts, fversions, fcount) (rkeys, rdays, rvalues, rcount)) (fun x127 =>
match x127 with
| Except.error E135 => none
| Except.ok r128 =>
gd_ ((3 * l9) + 1) 180 (
if (wv ((3 * l9) + 1).toNatClampNeg) = 1 then
f_L_isKey_J193 kx15 kl15 l1 l4 l5 l6 l7 l8 l9 l10 r128 (1 : Int32) (dhasSaved, dkeptError, dmoved) () (vkeys, vfirsts, vends, vvalues, vinferred, vgone, vmade) (fkeys, fdays, famounts, fversions, fcount) (rkeys, rdays, rvalues, rcount) yv wv
else
f_L_isKey_J193 kx15 kl15 l1 l4 l5 l6 l7 l8 l9 l10 r128 (0 : Int32) (dhasSaved, dkeptError, dmoved) () (vkeys, vfirsts, vends, vvalues, vinferred, vgone, vmade) (fkeys, fdays, famounts, fversions, fcount) (rkeys, rdays, rvalues, rcount) yv wv))
else
some (-1 : Int32)))
else
some (-1 : Int32))
else
some (-1 : Int32))
else
some (-1 : Int32))
else
some (-1 : Int32))
else
some (-1 : Int32))
def f_L_isKey_X69 (kx15 : Int32 → Int32 → Int32 → Int32 → Int32 → Int32 → tD_ → tS_ → tV_ → tF_ → tR_ → tI_ → tI_ → Option (Int32)) (kl15 : Int32 → Int32 → Int32 → Int32 → Int32 → Int32 → tD_ → tS_ → tV_ → tF_ → tR_ → tI_ → tI_ → Option (Int32)) (l1 : Int32) (l4 : Int32) (l5 : Int32) (l6 : Int32) (l7 : Int32) (l8 : Int32) (l9 : Int32) (l10 : Int32) (D_ : tD_) (S_ : tS_) (V_ : tV_) (F_ : tF_) (R_ : tR_) (yv : tI_) (wv : tI_) : Option (Int32) :=
match D_ with
| (dhasSaved, dkeptError, dmoved) =>
match V_ with
| (vkeys, vfirsts, vends, vvalues, vinferred, vgone, vmade) =>
match F_ with
| (fkeys, fdays, famounts, fversions, fcount) =>
match R_ with
| (rkeys, rdays, rvalues, rcount) =>
f_L_isKey_J92 kx15 kl15 l1 l4 l5 l6 l7 l8 l9 l10 (dhasSaved, dkeptError, dmoved) () (vkeys, vfirsts, vends, vvalues, vinferred, vgone, vmade) (fkeys, fdays, famounts, fversions, fcount) (rkeys, rdays, rvalues, rcount) yv wv
def f_L_isKey_S69 (kx69 : Int32 → Int32 → Int32 → Int32 → Int32 → Int32 → Int32 → Int32 → tD_ → tS_ → tV_ → tF_ → tR_ → tI_ → tI_ → Option (Int32)) (kl69 : Int32 → Int32 → Int32 → Int32 → Int32 → Int32 → Int32 → Int32 → tD_ → tS_ → tV_ → tF_ → tR_ → tI_ → tI_ → Option (Int32)) (l1 : Int32) (l4 : Int32) (l5 : Int32) (l6 : Int32) (l7 : Int32) (l8 : Int32) (l9 : Int32) (l10 : Int32) (D_ : tD_) (S_ : tS_) (V_ : tV_) (F_ : tF_) (R_ : tR_) (yv : tI_) (wv : tI_) : Option (Int32) :=
match D_ with
| (dhasSaved, dkeptError, dmoved) =>
match V_ with
| (vkeys, vfirsts, vends, vvalues, vinferred, vgone, vmade) =>
match F_ with
| (fkeys, fdays, famounts, fversions, fcount) =>
match R_ with
| (rkeys, rdays, rvalues, rcount) =>
if 1000 ≤ l10 then
kx69 l1 l4 l5 l6 l7 l8 l9 l10 (dhasSaved, dkeptError, dmoved) () (vkeys, vfirsts, vends, vvalues, vinferred, vgone, vmade) (fkeys, fdays, famounts, fversions, fcount) (rkeys, rdays, rvalues, rcount) yv wv
else
gd_ l10 1000 (
if (yv l10.toNatClampNeg) = l9 then
kl69 l1 l4 l5 l6 l7 l8 l9 (l10 + 1) (dhasSaved, dkeptError, dmoved) () (vkeys, vfirsts, vends, vvalues, vinferred, vgone, vmade) (fkeys, fdays, famounts, fversions, fcount) (rkeys, rdays, rvalues, rcount) yv wv
else
kx69 l1 l4 l5 l6 l7 l8 l9 l10 (dhasSaved, dkeptError, dmoved) () (vkeys, vfirsts, vends, vvalues, vinferred, vgone, vmade) (fkeys, fdays, famounts, fversions, fcount) (rkeys, rdays, rvalues, rcount) yv wv)
def f_L_isKey_L69 (kx69 : Int32 → Int32 → Int32 → Int32 → Int32 → Int32 → Int32 → Int32 → tD_ → tS_ → tV_ → tF_ → tR_ → tI_ → tI_ → Option (Int32)) : Nat → Int32 → Int32 → Int32 → Int32 → Int32 → Int32 → Int32 → Int32 → tD_ → tS_ → tV_ → tF_ → tR_ → tI_ → tI_ → Option (Int32)
  | 0 => fun _ _ _ _ _ _ _ _ _ _ _ _ _ _ _ => none
  | n + 1 => fun l1 l4 l5 l6 l7 l8 l9 l10 D_ S_ V_ F_ R_ yv wv => f_L_isKey_S69 kx69 (f_L_isKey_L69 kx69 n) l1 l4 l5 l6 l7 l8 l9 l10 D_ S_ V_ F_ R_ yv wv
def f_L_isKey_J65 (kx15 : Int32 → Int32 → Int32 → Int32 → Int32 → Int32 → tD_ → tS_ → tV_ → tF_ → tR_ → tI_ → tI_ → Option (Int32)) (kl15 : Int32 → Int32 → Int32 → Int32 → Int32 → Int32 → tD_ → tS_ → tV_ → tF_ → tR_ → tI_ → tI_ → Option (Int32)) (l1 : Int32) (l4 : Int32) (l5 : Int32) (l6 : Int32) (l7 : Int32) (l8 : Int32) (l9 : Int32) (D_ : tD_) (S_ : tS_) (V_ : tV_) (F_ : tF_) (R_ : tR_) (yv : tI_) (wv : tI_) : Option (Int32) :=
match D_ with
| (dhasSaved, dkeptError, dmoved) =>
match V_ with
| (vkeys, vfirsts, vends, vvalues, vinferred, vgone, vmade) =>
match F_ with
| (fkeys, fdays, famounts, fversions, fcount) =>
match R_ with
| (rkeys, rdays, rvalues, rcount) =>
f_L_isKey_L69 (f_L_isKey_X69 kx15 kl15) fu_ l1 l4 l5 l6 l7 l8 l9 l8 (dhasSaved, dkeptError, dmoved) () (vkeys, vfirsts, vends, vvalues, vinferred, vgone, vmade) (fkeys, fdays, famounts, fversions, fcount) (rkeys, rdays, rvalues, rcount) yv wv
def f_L_isKey_J43 (kx15 : Int32 → Int32 → Int32 → Int32 → Int32 → Int32 → tD_ → tS_ → tV_ → tF_ → tR_ → tI_ → tI_ → Option (Int32)) (kl15 : Int32 → Int32 → Int32 → Int32 → Int32 → Int32 → tD_ → tS_ → tV_ → tF_ → tR_ → tI_ → tI_ → Option (Int32)) (l1 : Int32) (l4 : Int32) (l5 : Int32) (l6 : Int32) (l7 : Int32) (l8 : Int32) (l9 : Int32) (D_ : tD_) (S_ : tS_) (V_ : tV_) (F_ : tF_) (R_ : tR_) (yv : tI_) (wv : tI_) : Option (Int32) :=
match D_ with
| (dhasSaved, dkeptError, dmoved) =>
match V_ with
| (vkeys, vfirsts, vends, vvalues, vinferred, vgone, vmade) =>
match F_ with
| (fkeys, fdays, famounts, fversions, fcount) =>
match R_ with
| (rkeys, rdays, rvalues, rcount) =>
if l8 ≤ 0 then
f_L_isKey_J65 kx15 kl15 l1 l4 l5 (l6 + 1) l7 l8 l9 (dhasSaved, dkeptError, dmoved) () (vkeys, vfirsts, vends, vvalues, vinferred, vgone, vmade) (fkeys, fdays, famounts, fversions, fcount) (rkeys, rdays, rvalues, rcount) yv wv
else
gd_ (l8 - 1) 1000 (
if (yv (l8 - 1).toNatClampNeg) = l9 then
kl15 l1 l4 l5 (l6 + 1) l7 (l8 + 1) (dhasSaved, dkeptError, dmoved) () (vkeys, vfirsts, vends, vvalues, vinferred, vgone, vmade) (fkeys, fdays, famounts, fversions, fcount) (rkeys, rdays, rvalues, rcount) yv wv
else
f_L_isKey_J65 kx15 kl15 l1 l4 l5 (l6 + 1) l7 l8 l9 (dhasSaved, dkeptError, dmoved) () (vkeys, vfirsts, vends, vvalues, vinferred, vgone, vmade) (fkeys, fdays, famounts, fversions, fcount) (rkeys, rdays, rvalues, rcount) yv wv)
def f_L_isKey_X15  (l1 : Int32) (l4 : Int32) (l5 : Int32) (l6 : Int32) (l7 : Int32) (l8 : Int32) (D_ : tD_) (S_ : tS_) (V_ : tV_) (F_ : tF_) (R_ : tR_) (yv : tI_) (wv : tI_) : Option (Int32) :=
match D_ with
| (dhasSaved, dkeptError, dmoved) =>
match V_ with
| (vkeys, vfirsts, vends, vvalues, vinferred, vgone, vmade) =>
match F_ with
| (fkeys, fdays, famounts, fversions, fcount) =>
match R_ with
| (rkeys, rdays, rvalues, rcount) =>
bd_ (f_X5_versionsOf l1 (dhasSaved, dkeptError, dmoved) () (vkeys, vfirsts, vends, vvalues, vinferred, vgone, vmade) (fkeys, fdays, famounts, fversions, fcount) (rkeys, rdays, rvalues, rcount)) (fun x1 =>
match x1 with
| Except.error E9 => none
| Except.ok r2 =>
if r2 = l4 then
bd_ (f_X5_gaps l1 (dhasSaved, dkeptError, dmoved) () (vkeys, vfirsts, vends, vvalues, vinferred, vgone, vmade) (fkeys, fdays, famounts, fversions, fcount) (rkeys, rdays, rvalues, rcount)) (fun x11 =>
match x11 with
| Except.error E19 => none
| Except.ok r12 =>
if r12 = l5 then
if l7 < 0 then
some l4
else
bd_ (f_X5_coverage l1 (dhasSaved, dkeptError, dmoved) () (vkeys, vfirsts, vends, vvalues, vinferred, vgone, vmade) (fkeys, fdays, famounts, fversions, fcount) (rkeys, rdays, rvalues, rcount)) (fun x22 =>
match x22 with
| Except.error E30 => none
| Except.ok r23 =>
gN_ (FP.i2d l6) (FP.i2d (1000 - l7)) (
if (Op.cmpValue (FP.dcmp r23 (FP.ddiv (FP.i2d l6) (FP.i2d (1000 - l7)))) .l) = 0 then
some l4
else
some (-1 : Int32)))
else
some (-1 : Int32))
else
some (-1 : Int32))
def f_L_isKey_S15 (kx15 : Int32 → Int32 → Int32 → Int32 → Int32 → Int32 → tD_ → tS_ → tV_ → tF_ → tR_ → tI_ → tI_ → Option (Int32)) (kl15 : Int32 → Int32 → Int32 → Int32 → Int32 → Int32 → tD_ → tS_ → tV_ → tF_ → tR_ → tI_ → tI_ → Option (Int32)) (l1 : Int32) (l4 : Int32) (l5 : Int32) (l6 : Int32) (l7 : Int32) (l8 : Int32) (D_ : tD_) (S_ : tS_) (V_ : tV_) (F_ : tF_) (R_ : tR_) (yv : tI_) (wv : tI_) : Option (Int32) :=
match D_ with
| (dhasSaved, dkeptError, dmoved) =>
match V_ with
| (vkeys, vfirsts, vends, vvalues, vinferred, vgone, vmade) =>
match F_ with
| (fkeys, fdays, famounts, fversions, fcount) =>
match R_ with
| (rkeys, rdays, rvalues, rcount) =>
if 1000 ≤ l8 then
kx15 l1 l4 l5 l6 l7 l8 (dhasSaved, dkeptError, dmoved) () (vkeys, vfirsts, vends, vvalues, vinferred, vgone, vmade) (fkeys, fdays, famounts, fversions, fcount) (rkeys, rdays, rvalues, rcount) yv wv
else
gd_ l8 1000 (
if (yv l8.toNatClampNeg) < 0 then
if l7 < 0 then
kl15 l1 l4 l5 l6 l7 (l8 + 1) (dhasSaved, dkeptError, dmoved) () (vkeys, vfirsts, vends, vvalues, vinferred, vgone, vmade) (fkeys, fdays, famounts, fversions, fcount) (rkeys, rdays, rvalues, rcount) yv wv
else
gd_ (l8 - 1) 1000 (
if (yv (l8 - 1).toNatClampNeg) < 0 then
kl15 l1 l4 l5 l6 l7 (l8 + 1) (dhasSaved, dkeptError, dmoved) () (vkeys, vfirsts, vends, vvalues, vinferred, vgone, vmade) (fkeys, fdays, famounts, fversions, fcount) (rkeys, rdays, rvalues, rcount) yv wv
else
bd_ (f_L_next l8 yv) (fun r39 =>
bd_ (f_X5_gapDay l1 l5 (0 : Int32) (dhasSaved, dkeptError, dmoved) () (vkeys, vfirsts, vends, vvalues, vinferred, vgone, vmade) (fkeys, fdays, famounts, fversions, fcount) (rkeys, rdays, rvalues, rcount)) (fun x44 =>
match x44 with
| Except.error E52 => none
| Except.ok r45 =>
if r45 = l8 then
bd_ (f_X5_gapDay l1 l5 (1 : Int32) (dhasSaved, dkeptError, dmoved) () (vkeys, vfirsts, vends, vvalues, vinferred, vgone, vmade) (fkeys, fdays, famounts, fversions, fcount) (rkeys, rdays, rvalues, rcount)) (fun x54 =>
match x54 with
| Except.error E62 => none
| Except.ok r55 =>
if r55 = (r39 - 1) then
kl15 l1 l4 (l5 + 1) l6 l7 (l8 + 1) (dhasSaved, dkeptError, dmoved) () (vkeys, vfirsts, vends, vvalues, vinferred, vgone, vmade) (fkeys, fdays, famounts, fversions, fcount) (rkeys, rdays, rvalues, rcount) yv wv
else
some (-1 : Int32))
else
some (-1 : Int32))))
else
if 0 ≤ l7 then
f_L_isKey_J43 kx15 kl15 l1 l4 l5 l6 l7 l8 (yv l8.toNatClampNeg) (dhasSaved, dkeptError, dmoved) () (vkeys, vfirsts, vends, vvalues, vinferred, vgone, vmade) (fkeys, fdays, famounts, fversions, fcount) (rkeys, rdays, rvalues, rcount) yv wv
else
f_L_isKey_J43 kx15 kl15 l1 l4 l5 l6 l8 l8 (yv l8.toNatClampNeg) (dhasSaved, dkeptError, dmoved) () (vkeys, vfirsts, vends, vvalues, vinferred, vgone, vmade) (fkeys, fdays, famounts, fversions, fcount) (rkeys, rdays, rvalues, rcount) yv wv)
def f_L_isKey_L15 (kx15 : Int32 → Int32 → Int32 → Int32 → Int32 → Int32 → tD_ → tS_ → tV_ → tF_ → tR_ → tI_ → tI_ → Option (Int32)) : Nat → Int32 → Int32 → Int32 → Int32 → Int32 → Int32 → tD_ → tS_ → tV_ → tF_ → tR_ → tI_ → tI_ → Option (Int32)
  | 0 => fun _ _ _ _ _ _ _ _ _ _ _ _ _ => none
  | n + 1 => fun l1 l4 l5 l6 l7 l8 D_ S_ V_ F_ R_ yv wv => f_L_isKey_S15 kx15 (f_L_isKey_L15 kx15 n) l1 l4 l5 l6 l7 l8 D_ S_ V_ F_ R_ yv wv
def f_L_isKey (a2 : Int32) (D_ : tD_) (S_ : tS_) (V_ : tV_) (F_ : tF_) (R_ : tR_) (yv : tI_) (wv : tI_) : Option (Int32) :=
match D_ with
| (dhasSaved, dkeptError, dmoved) =>
match V_ with
| (vkeys, vfirsts, vends, vvalues, vinferred, vgone, vmade) =>
match F_ with
| (fkeys, fdays, famounts, fversions, fcount) =>
match R_ with
| (rkeys, rdays, rvalues, rcount) =>
f_L_isKey_L15 f_L_isKey_X15 fu_ a2 (0 : Int32) (0 : Int32) (0 : Int32) (-1 : Int32) (0 : Int32) (dhasSaved, dkeptError, dmoved) () (vkeys, vfirsts, vends, vvalues, vinferred, vgone, vmade) (fkeys, fdays, famounts, fversions, fcount) (rkeys, rdays, rvalues, rcount) yv wv
def f_law_A_X164 (xs : Nat → Int32) (L K mw : Nat) (k1028 : Int32 → Int32 → Int32 → Int32 → Int32 → Int32 → tD_ → tS_ → tV_ → tF_ → tR_ → tI_ → tI_ → tY_ → tZ_ → Option Unit) (k202 : Nat → Int32 → Int32 → Int32 → Int32 → Int32 → Int32 → Int32 → Int32 → Int32 → Int32 → tD_ → tS_ → tV_ → tF_ → tR_ → tI_ → tI_ → tY_ → tI_ → tZ_ → Option Unit) (l2 : Int32) (l3 : Int32) (l7 : Int32) (l8 : Int32) (l9 : Int32) (l10 : Int32) (l11 : Int32) (l12 : Int32) (l13 : Int32) (l14 : Int32) (l16 : Int32) (D_ : tD_) (S_ : tS_) (V_ : tV_) (F_ : tF_) (R_ : tR_) (wv : tI_) (xv : tI_) (Y_ : tY_) (uv : tI_) (zv : tZ_) : Option (Unit) :=
match D_ with
| (dhasSaved, dkeptError, dmoved) =>
match V_ with
| (vkeys, vfirsts, vends, vvalues, vinferred, vgone, vmade) =>
match F_ with
| (fkeys, fdays, famounts, fversions, fcount) =>
match R_ with
| (rkeys, rdays, rvalues, rcount) =>
k202 mw l2 l3 l7 l8 l9 l10 l11 l12 l13 l14 (dhasSaved, dkeptError, dmoved) () (vkeys, vfirsts, vends, vvalues, vinferred, vgone, vmade) (fkeys, fdays, famounts, fversions, fcount) (rkeys, rdays, rvalues, rcount) wv xv () uv zv
def f_law_A_S164 (xs : Nat → Int32) (L K mw : Nat) (kx164 : Int32 → Int32 → Int32 → Int32 → Int32 → Int32 → Int32 → Int32 → Int32 → Int32 → Int32 → tD_ → tS_ → tV_ → tF_ → tR_ → tI_ → tI_ → tY_ → tI_ → tZ_ → Option (Unit)) (kl164 : Int32 → Int32 → Int32 → Int32 → Int32 → Int32 → Int32 → Int32 → Int32 → Int32 → Int32 → tD_ → tS_ → tV_ → tF_ → tR_ → tI_ → tI_ → tY_ → tI_ → tZ_ → Option (Unit)) (l2 : Int32) (l3 : Int32) (l7 : Int32) (l8 : Int32) (l9 : Int32) (l10 : Int32) (l11 : Int32) (l12 : Int32) (l13 : Int32) (l14 : Int32) (l16 : Int32) (D_ : tD_) (S_ : tS_) (V_ : tV_) (F_ : tF_) (R_ : tR_) (wv : tI_) (xv : tI_) (Y_ : tY_) (uv : tI_) (zv : tZ_) : Option (Unit) :=
match D_ with
| (dhasSaved, dkeptError, dmoved) =>
match V_ with
| (vkeys, vfirsts, vends, vvalues, vinferred, vgone, vmade) =>
match F_ with
| (fkeys, fdays, famounts, fversions, fcount) =>
match R_ with
| (rkeys, rdays, rvalues, rcount) =>
if l8 ≤ l16 then
kx164 l2 l3 l7 l8 l9 l10 l11 l12 l13 l14 l16 (dhasSaved, dkeptError, dmoved) () (vkeys, vfirsts, vends, vvalues, vinferred, vgone, vmade) (fkeys, fdays, famounts, fversions, fcount) (rkeys, rdays, rvalues, rcount) wv xv () uv zv
else
gd_ (3 * l16) 180 (
gd_ (xv (3 * l16).toNatClampNeg) K (
gd_ ((3 * l16) + 1) 180 (
gd_ (xv ((3 * l16) + 1).toNatClampNeg) 1000 (
gd_ l16 mw (nm_ (upd uv l16.toNatClampNeg (zv (xv (3 * l16).toNatClampNeg).toNatClampNeg (xv ((3 * l16) + 1).toNatClampNeg).toNatClampNeg)) (fun u26 =>
kl164 l2 l3 l7 l8 l9 l10 l11 l12 l13 l14 (l16 + 1) (dhasSaved, dkeptError, dmoved) () (vkeys, vfirsts, vends, vvalues, vinferred, vgone, vmade) (fkeys, fdays, famounts, fversions, fcount) (rkeys, rdays, rvalues, rcount) wv xv () u26 zv))))))
def f_law_A_L164 (xs : Nat → Int32) (L K mw : Nat) (kx164 : Int32 → Int32 → Int32 → Int32 → Int32 → Int32 → Int32 → Int32 → Int32 → Int32 → Int32 → tD_ → tS_ → tV_ → tF_ → tR_ → tI_ → tI_ → tY_ → tI_ → tZ_ → Option (Unit)) : Nat → Int32 → Int32 → Int32 → Int32 → Int32 → Int32 → Int32 → Int32 → Int32 → Int32 → Int32 → tD_ → tS_ → tV_ → tF_ → tR_ → tI_ → tI_ → tY_ → tI_ → tZ_ → Option (Unit)
  | 0 => fun _ _ _ _ _ _ _ _ _ _ _ _ _ _ _ _ _ _ _ _ _ => none
  | n + 1 => fun l2 l3 l7 l8 l9 l10 l11 l12 l13 l14 l16 D_ S_ V_ F_ R_ wv xv Y_ uv zv => f_law_A_S164 xs L K mw kx164 (f_law_A_L164 xs L K mw kx164 n) l2 l3 l7 l8 l9 l10 l11 l12 l13 l14 l16 D_ S_ V_ F_ R_ wv xv Y_ uv zv
def f_law_A (xs : Nat → Int32) (L K : Nat) (k1028 : Int32 → Int32 → Int32 → Int32 → Int32 → Int32 → tD_ → tS_ → tV_ → tF_ → tR_ → tI_ → tI_ → tY_ → tZ_ → Option Unit) (k202 : Nat → Int32 → Int32 → Int32 → Int32 → Int32 → Int32 → Int32 → Int32 → Int32 → Int32 → tD_ → tS_ → tV_ → tF_ → tR_ → tI_ → tI_ → tY_ → tI_ → tZ_ → Option Unit) (l2 : Int32) (l3 : Int32) (l7 : Int32) (l8 : Int32) (l9 : Int32) (l10 : Int32) (D_ : tD_) (S_ : tS_) (V_ : tV_) (F_ : tF_) (R_ : tR_) (wv : tI_) (xv : tI_) (Y_ : tY_) (zv : tZ_) : Option Unit :=
match D_ with
| (dhasSaved, dkeptError, dmoved) =>
match V_ with
| (vkeys, vfirsts, vends, vvalues, vinferred, vgone, vmade) =>
match F_ with
| (fkeys, fdays, famounts, fversions, fcount) =>
match R_ with
| (rkeys, rdays, rvalues, rcount) =>
if l9 ≤ l10 then
k1028 l2 l3 l7 l8 l9 l10 (dhasSaved, dkeptError, dmoved) () (vkeys, vfirsts, vends, vvalues, vinferred, vgone, vmade) (fkeys, fdays, famounts, fversions, fcount) (rkeys, rdays, rvalues, rcount) wv xv () zv
else
gp_ (10 + (4 * l10)) l2 (nm_ (dw_ xs L (10 + (4 * l10)) l2) (fun r3 =>
gp_ ((10 + (4 * l10)) + 1) l3 (nm_ (dw_ xs L ((10 + (4 * l10)) + 1) l3) (fun r8 =>
gp_ ((10 + (4 * l10)) + 2) (12 : Int32) (nm_ (dw_ xs L ((10 + (4 * l10)) + 2) (12 : Int32)) (fun r13 =>
gw_ l8 60 (nm_ (l8.toNatClampNeg) (fun mw =>
f_law_A_L164 xs L K mw (f_law_A_X164 xs L K mw k1028 k202) fu_ l2 l3 l7 l8 l9 l10 (10 + (4 * l10)) r3 r8 r13 (0 : Int32) (dhasSaved, dkeptError, dmoved) () (vkeys, vfirsts, vends, vvalues, vinferred, vgone, vmade) (fkeys, fdays, famounts, fversions, fcount) (rkeys, rdays, rvalues, rcount) wv xv () (fun _ => 0) zv))))))))
def f_law_D (xs : Nat → Int32) (L K mw : Nat) (k208 : Int32 → Int32 → Int32 → Int32 → Int32 → Int32 → Int32 → Int32 → Int32 → Int32 → tD_ → tS_ → tV_ → tF_ → tR_ → tI_ → tI_ → tY_ → tI_ → tZ_ → Option Unit) (k272 : Int32 → Int32 → Int32 → Int32 → Int32 → Int32 → Int32 → Int32 → Int32 → Int32 → tD_ → tS_ → tV_ → tF_ → tR_ → tI_ → tI_ → tY_ → tI_ → tZ_ → Option Unit) (k367 : Int32 → Int32 → Int32 → Int32 → Int32 → Int32 → Int32 → Int32 → Int32 → Int32 → tD_ → tS_ → tV_ → tF_ → tR_ → tI_ → tI_ → tY_ → tI_ → tZ_ → Option Unit) (k572 : Int32 → Int32 → Int32 → Int32 → Int32 → Int32 → Int32 → Int32 → Int32 → Int32 → tD_ → tS_ → tV_ → tF_ → tR_ → tI_ → tI_ → tY_ → tI_ → tZ_ → Option Unit) (k791 : Int32 → Int32 → Int32 → Int32 → Int32 → Int32 → Int32 → Int32 → Int32 → Int32 → tD_ → tS_ → tV_ → tF_ → tR_ → tI_ → tI_ → tY_ → tI_ → tZ_ → Option Unit) (l2 : Int32) (l3 : Int32) (l7 : Int32) (l8 : Int32) (l9 : Int32) (l10 : Int32) (l11 : Int32) (l12 : Int32) (l13 : Int32) (l14 : Int32) (D_ : tD_) (S_ : tS_) (V_ : tV_) (F_ : tF_) (R_ : tR_) (wv : tI_) (xv : tI_) (Y_ : tY_) (uv : tI_) (zv : tZ_) : Option Unit :=
match D_ with
| (dhasSaved, dkeptError, dmoved) =>
match V_ with
| (vkeys, vfirsts, vends, vvalues, vinferred, vgone, vmade) =>
match F_ with
| (fkeys, fdays, famounts, fversions, fcount) =>
match R_ with
| (rkeys, rdays, rvalues, rcount) =>
if 5 ≤ l14 then
if 9 ≤ l14 then
if l14 = 9 then
k367 l2 l3 l7 l8 l9 l10 l11 l12 l13 l14 (dhasSaved, dkeptError, dmoved) () (vkeys, vfirsts, vends, vvalues, vinferred, vgone, vmade) (fkeys, fdays, famounts, fversions, fcount) (rkeys, rdays, rvalues, rcount) wv xv () uv zv
else
if l14 = 10 then
k572 l2 l3 l7 l8 l9 l10 l11 l12 l13 l14 (dhasSaved, dkeptError, dmoved) () (vkeys, vfirsts, vends, vvalues, vinferred, vgone, vmade) (fkeys, fdays, famounts, fversions, fcount) (rkeys, rdays, rvalues, rcount) wv xv () uv zv
else
k791 l2 l3 l7 l8 l9 l10 l11 l12 l13 l14 (dhasSaved, dkeptError, dmoved) () (vkeys, vfirsts, vends, vvalues, vinferred, vgone, vmade) (fkeys, fdays, famounts, fversions, fcount) (rkeys, rdays, rvalues, rcount) wv xv () uv zv
else
k272 l2 l3 l7 l8 l9 l10 l11 l12 l13 l14 (dhasSaved, dkeptError, dmoved) () (vkeys, vfirsts, vends, vvalues, vinferred, vgone, vmade) (fkeys, fdays, famounts, fversions, fcount) (rkeys, rdays, rvalues, rcount) wv xv () uv zv
else
k208 l2 l3 l7 l8 l9 l10 l11 l12 l13 l14 (dhasSaved, dkeptError, dmoved) () (vkeys, vfirsts, vends, vvalues, vinferred, vgone, vmade) (fkeys, fdays, famounts, fversions, fcount) (rkeys, rdays, rvalues, rcount) wv xv () uv zv
def f_law_B1 (xs : Nat → Int32) (L K mw : Nat) (k953 : Int32 → Int32 → Int32 → Int32 → Int32 → Int32 → tD_ → tS_ → tV_ → tF_ → tR_ → tI_ → tI_ → tY_ → tI_ → tZ_ → Option Unit) (l2 : Int32) (l3 : Int32) (l7 : Int32) (l8 : Int32) (l9 : Int32) (l10 : Int32) (l11 : Int32) (l12 : Int32) (l13 : Int32) (l14 : Int32) (D_ : tD_) (S_ : tS_) (V_ : tV_) (F_ : tF_) (R_ : tR_) (wv : tI_) (xv : tI_) (Y_ : tY_) (uv : tI_) (zv : tZ_) : Option Unit :=
match D_ with
| (dhasSaved, dkeptError, dmoved) =>
match V_ with
| (vkeys, vfirsts, vends, vvalues, vinferred, vgone, vmade) =>
match F_ with
| (fkeys, fdays, famounts, fversions, fcount) =>
match R_ with
| (rkeys, rdays, rvalues, rcount) =>
gp_ (l11 + 3) (3 : Int32) (nm_ (dw_ xs L (l11 + 3) (3 : Int32)) (fun r2 =>
gd_ l12 K (
bd_ (f_L_change l7 l12 l13 r2 (zv l12.toNatClampNeg) wv) (fun (r11, yv12, wv13) =>
nm_ ((rup zv l12.toNatClampNeg yv12)) (fun u14 =>
bd_ (f_X5_change l12 l13 r2 (dhasSaved, dkeptError, dmoved) () (vkeys, vfirsts, vends, vvalues, vinferred, vgone, vmade) (fkeys, fdays, famounts, fversions, fcount) (rkeys, rdays, rvalues, rcount)) (fun (x16, (dh18, dk19, dm20), (vk21, vf22, ve23, vv24, vi25, vg26, vm27), (fk28, fd29, fa30, fv31, fc32)) =>
match x16 with
| Except.error E39 => none
| Except.ok r17 =>
gd_ l12 K (
gd_ l13 1000 (
if r17 = (u14 l12.toNatClampNeg l13.toNatClampNeg) then
k953 l2 l3 r11 l8 l9 l10 (dh18, dk19, dm20) () (vk21, vf22, ve23, vv24, vi25, vg26, vm27) (fk28, fd29, fa30, fv31, fc32) (rkeys, rdays, rvalues, rcount) wv13 xv () uv u14
else
none))))))))
def f_law_B2 (xs : Nat → Int32) (L K mw : Nat) (k953 : Int32 → Int32 → Int32 → Int32 → Int32 → Int32 → tD_ → tS_ → tV_ → tF_ → tR_ → tI_ → tI_ → tY_ → tI_ → tZ_ → Option Unit) (l2 : Int32) (l3 : Int32) (l7 : Int32) (l8 : Int32) (l9 : Int32) (l10 : Int32) (l11 : Int32) (l12 : Int32) (l13 : Int32) (l14 : Int32) (D_ : tD_) (S_ : tS_) (V_ : tV_) (F_ : tF_) (R_ : tR_) (wv : tI_) (xv : tI_) (Y_ : tY_) (uv : tI_) (zv : tZ_) : Option Unit :=
match D_ with
| (dhasSaved, dkeptError, dmoved) =>
match V_ with
| (vkeys, vfirsts, vends, vvalues, vinferred, vgone, vmade) =>
match F_ with
| (fkeys, fdays, famounts, fversions, fcount) =>
match R_ with
| (rkeys, rdays, rvalues, rcount) =>
gd_ l12 K (
bd_ (f_L_fact l7 l12 l13 (zv l12.toNatClampNeg) wv) (fun (r6, yv7, wv8) =>
nm_ ((rup zv l12.toNatClampNeg yv7)) (fun u9 =>
gp_ (l11 + 3) (1 : Int32) (nm_ (cv_at xs L (l11 + 3)) (fun r12 =>
bd_ (f_X5_addFact l12 l13 r12 (dhasSaved, dkeptError, dmoved) () (vkeys, vfirsts, vends, vvalues, vinferred, vgone, vmade) (fkeys, fdays, famounts, fversions, fcount) (rkeys, rdays, rvalues, rcount)) (fun (x16, (dh18, dk19, dm20), (vk21, vf22, ve23, vv24, vi25, vg26, vm27), (fk28, fd29, fa30, fv31, fc32)) =>
match x16 with
| Except.error E39 => none
| Except.ok r17 =>
gd_ l12 K (
gd_ l13 1000 (
if r17 = (u9 l12.toNatClampNeg l13.toNatClampNeg) then
gd_ (3 * l8) 180 (nm_ (upd xv ((3 * l8).toNatClampNeg) l12) (fun u45 =>
gd_ ((3 * l8) + 1) 180 (nm_ (upd u45 (((3 * l8) + 1).toNatClampNeg) l13) (fun u49 =>
gd_ ((3 * l8) + 2) 180 (nm_ (upd u49 (((3 * l8) + 2).toNatClampNeg) r12) (fun u53 =>
k953 l2 l3 r6 (l8 + 1) l9 l10 (dh18, dk19, dm20) () (vk21, vf22, ve23, vv24, vi25, vg26, vm27) (fk28, fd29, fa30, fv31, fc32) (rkeys, rdays, rvalues, rcount) wv8 u53 () uv u9))))))
else
none))))))))
def f_law_B3_J536 (xs : Nat → Int32) (L K mw : Nat) (k953 : Int32 → Int32 → Int32 → Int32 → Int32 → Int32 → tD_ → tS_ → tV_ → tF_ → tR_ → tI_ → tI_ → tY_ → tI_ → tZ_ → Option Unit) (k1022 : Int32 → Int32 → Int32 → Int32 → Int32 → Int32 → tD_ → tS_ → tV_ → tF_ → tR_ → tI_ → tI_ → tY_ → tZ_ → Option Unit) (l2 : Int32) (l3 : Int32) (l7 : Int32) (l8 : Int32) (l9 : Int32) (l10 : Int32) (l11 : Int32) (l12 : Int32) (l13 : Int32) (l14 : Int32) (l16 : Int32) (l17 : Int32) (l18 : Int32) (l19 : Int32) (k0_ : Int32) (k1_ : Int32) (D_ : tD_) (S_ : tS_) (V_ : tV_) (F_ : tF_) (R_ : tR_) (wv : tI_) (xv : tI_) (Y_ : tY_) (uv : tI_) (zv : tZ_) : Option (Unit) :=
match D_ with
| (dhasSaved, dkeptError, dmoved) =>
match V_ with
| (vkeys, vfirsts, vends, vvalues, vinferred, vgone, vmade) =>
match F_ with
| (fkeys, fdays, famounts, fversions, fcount) =>
match R_ with
| (rkeys, rdays, rvalues, rcount) =>
if k0_ = k1_ then
if l18 = 0 then
k1022 l2 l3 l7 l8 l9 l10 (dhasSaved, dkeptError, dmoved) () (vkeys, vfirsts, vends, vvalues, vinferred, vgone, vmade) (fkeys, fdays, famounts, fversions, fcount) (rkeys, rdays, rvalues, rcount) wv xv () zv
else
gd_ l12 K (
bd_ (f_L_fill l13 l17 (-1 : Int32) (zv l12.toNatClampNeg)) (fun yv33 =>
nm_ ((rup zv l12.toNatClampNeg yv33)) (fun u34 =>
k953 l2 l3 l7 l8 l9 l10 (dhasSaved, dkeptError, dmoved) () (vkeys, vfirsts, vends, vvalues, vinferred, vgone, vmade) (fkeys, fdays, famounts, fversions, fcount) (rkeys, rdays, rvalues, rcount) wv xv () uv u34)))
else
none
def f_law_B3_J497 (xs : Nat → Int32) (L K mw : Nat) (kx443 : Int32 → Int32 → Int32 → Int32 → Int32 → Int32 → Int32 → Int32 → Int32 → Int32 → Int32 → Int32 → Int32 → Int32 → tD_ → tS_ → tV_ → tF_ → tR_ → tI_ → tI_ → tY_ → tI_ → tZ_ → Option (Unit)) (kl443 : Int32 → Int32 → Int32 → Int32 → Int32 → Int32 → Int32 → Int32 → Int32 → Int32 → Int32 → Int32 → Int32 → Int32 → tD_ → tS_ → tV_ → tF_ → tR_ → tI_ → tI_ → tY_ → tI_ → tZ_ → Option (Unit)) (l2 : Int32) (l3 : Int32) (l7 : Int32) (l8 : Int32) (l9 : Int32) (l10 : Int32) (l11 : Int32) (l12 : Int32) (l13 : Int32) (l14 : Int32) (l16 : Int32) (l17 : Int32) (l18 : Int32) (l19 : Int32) (k0_ : Int32) (k1_ : Int32) (D_ : tD_) (S_ : tS_) (V_ : tV_) (F_ : tF_) (R_ : tR_) (wv : tI_) (xv : tI_) (Y_ : tY_) (uv : tI_) (zv : tZ_) : Option (Unit) :=
match D_ with
| (dhasSaved, dkeptError, dmoved) =>
match V_ with
| (vkeys, vfirsts, vends, vvalues, vinferred, vgone, vmade) =>
match F_ with
| (fkeys, fdays, famounts, fversions, fcount) =>
match R_ with
| (rkeys, rdays, rvalues, rcount) =>
kl443 l2 l3 l7 l8 l9 l10 l11 l12 l13 l14 l16 l17 (k0_ &&& k1_) (l19 + 1) (dhasSaved, dkeptError, dmoved) () (vkeys, vfirsts, vends, vvalues, vinferred, vgone, vmade) (fkeys, fdays, famounts, fversions, fcount) (rkeys, rdays, rvalues, rcount) wv xv () uv zv
def f_law_B3_X443 (xs : Nat → Int32) (L K mw : Nat) (k953 : Int32 → Int32 → Int32 → Int32 → Int32 → Int32 → tD_ → tS_ → tV_ → tF_ → tR_ → tI_ → tI_ → tY_ → tI_ → tZ_ → Option Unit) (k1022 : Int32 → Int32 → Int32 → Int32 → Int32 → Int32 → tD_ → tS_ → tV_ → tF_ → tR_ → tI_ → tI_ → tY_ → tZ_ → Option Unit) (l2 : Int32) (l3 : Int32) (l7 : Int32) (l8 : Int32) (l9 : Int32) (l10 : Int32) (l11 : Int32) (l12 : Int32) (l13 : Int32) (l14 : Int32) (l16 : Int32) (l17 : Int32) (l18 : Int32) (l19 : Int32) (D_ : tD_) (S_ : tS_) (V_ : tV_) (F_ : tF_) (R_ : tR_) (wv : tI_) (xv : tI_) (Y_ : tY_) (uv : tI_) (zv : tZ_) : Option (Unit) :=
match D_ with
| (dhasSaved, dkeptError, dmoved) =>
match V_ with
| (vkeys, vfirsts, vends, vvalues, vinferred, vgone, vmade) =>
match F_ with
| (fkeys, fdays, famounts, fversions, fcount) =>
match R_ with
| (rkeys, rdays, rvalues, rcount) =>
bd_ (f_L_close l12 l13 (dhasSaved, dkeptError, dmoved) () (vkeys, vfirsts, vends, vvalues, vinferred, vgone, vmade) (fkeys, fdays, famounts, fversions, fcount) (rkeys, rdays, rvalues, rcount)) (fun (r4, (dh5, dk6, dm7), (vk8, vf9, ve10, vv11, vi12, vg13, vm14), (fk15, fd16, fa17, fv18, fc19)) =>
if 0 ≤ l16 then
if l18 = 0 then
f_law_B3_J536 xs L K mw k953 k1022 l2 l3 l7 l8 l9 l10 l11 l12 l13 l14 l16 l17 l18 l19 r4 (-4 : Int32) (dh5, dk6, dm7) () (vk8, vf9, ve10, vv11, vi12, vg13, vm14) (fk15, fd16, fa17, fv18, fc19) (rkeys, rdays, rvalues, rcount) wv xv () uv zv
else
f_law_B3_J536 xs L K mw k953 k1022 l2 l3 l7 l8 l9 l10 l11 l12 l13 l14 l16 l17 l18 l19 r4 l17 (dh5, dk6, dm7) () (vk8, vf9, ve10, vv11, vi12, vg13, vm14) (fk15, fd16, fa17, fv18, fc19) (rkeys, rdays, rvalues, rcount) wv xv () uv zv
else
f_law_B3_J536 xs L K mw k953 k1022 l2 l3 l7 l8 l9 l10 l11 l12 l13 l14 l16 l17 l18 l19 r4 (-3 : Int32) (dh5, dk6, dm7) () (vk8, vf9, ve10, vv11, vi12, vg13, vm14) (fk15, fd16, fa17, fv18, fc19) (rkeys, rdays, rvalues, rcount) wv xv () uv zv)
def f_law_B3_S443 (xs : Nat → Int32) (L K mw : Nat) (kx443 : Int32 → Int32 → Int32 → Int32 → Int32 → Int32 → Int32 → Int32 → Int32 → Int32 → Int32 → Int32 → Int32 → Int32 → tD_ → tS_ → tV_ → tF_ → tR_ → tI_ → tI_ → tY_ → tI_ → tZ_ → Option (Unit)) (kl443 : Int32 → Int32 → Int32 → Int32 → Int32 → Int32 → Int32 → Int32 → Int32 → Int32 → Int32 → Int32 → Int32 → Int32 → tD_ → tS_ → tV_ → tF_ → tR_ → tI_ → tI_ → tY_ → tI_ → tZ_ → Option (Unit)) (l2 : Int32) (l3 : Int32) (l7 : Int32) (l8 : Int32) (l9 : Int32) (l10 : Int32) (l11 : Int32) (l12 : Int32) (l13 : Int32) (l14 : Int32) (l16 : Int32) (l17 : Int32) (l18 : Int32) (l19 : Int32) (D_ : tD_) (S_ : tS_) (V_ : tV_) (F_ : tF_) (R_ : tR_) (wv : tI_) (xv : tI_) (Y_ : tY_) (uv : tI_) (zv : tZ_) : Option (Unit) :=
match D_ with
| (dhasSaved, dkeptError, dmoved) =>
match V_ with
| (vkeys, vfirsts, vends, vvalues, vinferred, vgone, vmade) =>
match F_ with
| (fkeys, fdays, famounts, fversions, fcount) =>
match R_ with
| (rkeys, rdays, rvalues, rcount) =>
if l8 ≤ l19 then
kx443 l2 l3 l7 l8 l9 l10 l11 l12 l13 l14 l16 l17 l18 l19 (dhasSaved, dkeptError, dmoved) () (vkeys, vfirsts, vends, vvalues, vinferred, vgone, vmade) (fkeys, fdays, famounts, fversions, fcount) (rkeys, rdays, rvalues, rcount) wv xv () uv zv
else
gd_ (3 * l19) 180 (
if (xv (3 * l19).toNatClampNeg) = l12 then
gd_ ((3 * l19) + 1) 180 (
if (xv ((3 * l19) + 1).toNatClampNeg) < l13 then
f_law_B3_J497 xs L K mw kx443 kl443 l2 l3 l7 l8 l9 l10 l11 l12 l13 l14 l16 l17 l18 l19 l18 (1 : Int32) (dhasSaved, dkeptError, dmoved) () (vkeys, vfirsts, vends, vvalues, vinferred, vgone, vmade) (fkeys, fdays, famounts, fversions, fcount) (rkeys, rdays, rvalues, rcount) wv xv () uv zv
else
gd_ ((3 * l19) + 1) 180 (
if (xv ((3 * l19) + 1).toNatClampNeg) < l17 then
f_law_B3_J497 xs L K mw kx443 kl443 l2 l3 l7 l8 l9 l10 l11 l12 l13 l14 l16 l17 l18 l19 l18 (0 : Int32) (dhasSaved, dkeptError, dmoved) () (vkeys, vfirsts, vends, vvalues, vinferred, vgone, vmade) (fkeys, fdays, famounts, fversions, fcount) (rkeys, rdays, rvalues, rcount) wv xv () uv zv
else
f_law_B3_J497 xs L K mw kx443 kl443 l2 l3 l7 l8 l9 l10 l11 l12 l13 l14 l16 l17 l18 l19 l18 (1 : Int32) (dhasSaved, dkeptError, dmoved) () (vkeys, vfirsts, vends, vvalues, vinferred, vgone, vmade) (fkeys, fdays, famounts, fversions, fcount) (rkeys, rdays, rvalues, rcount) wv xv () uv zv))
else
f_law_B3_J497 xs L K mw kx443 kl443 l2 l3 l7 l8 l9 l10 l11 l12 l13 l14 l16 l17 l18 l19 l18 (1 : Int32) (dhasSaved, dkeptError, dmoved) () (vkeys, vfirsts, vends, vvalues, vinferred, vgone, vmade) (fkeys, fdays, famounts, fversions, fcount) (rkeys, rdays, rvalues, rcount) wv xv () uv zv)
def f_law_B3_L443 (xs : Nat → Int32) (L K mw : Nat) (kx443 : Int32 → Int32 → Int32 → Int32 → Int32 → Int32 → Int32 → Int32 → Int32 → Int32 → Int32 → Int32 → Int32 → Int32 → tD_ → tS_ → tV_ → tF_ → tR_ → tI_ → tI_ → tY_ → tI_ → tZ_ → Option (Unit)) : Nat → Int32 → Int32 → Int32 → Int32 → Int32 → Int32 → Int32 → Int32 → Int32 → Int32 → Int32 → Int32 → Int32 → Int32 → tD_ → tS_ → tV_ → tF_ → tR_ → tI_ → tI_ → tY_ → tI_ → tZ_ → Option (Unit)
  | 0 => fun _ _ _ _ _ _ _ _ _ _ _ _ _ _ _ _ _ _ _ _ _ _ _ _ => none
  | n + 1 => fun l2 l3 l7 l8 l9 l10 l11 l12 l13 l14 l16 l17 l18 l19 D_ S_ V_ F_ R_ wv xv Y_ uv zv => f_law_B3_S443 xs L K mw kx443 (f_law_B3_L443 xs L K mw kx443 n) l2 l3 l7 l8 l9 l10 l11 l12 l13 l14 l16 l17 l18 l19 D_ S_ V_ F_ R_ wv xv Y_ uv zv
def f_law_B3_J438 (xs : Nat → Int32) (L K mw : Nat) (k953 : Int32 → Int32 → Int32 → Int32 → Int32 → Int32 → tD_ → tS_ → tV_ → tF_ → tR_ → tI_ → tI_ → tY_ → tI_ → tZ_ → Option Unit) (k1022 : Int32 → Int32 → Int32 → Int32 → Int32 → Int32 → tD_ → tS_ → tV_ → tF_ → tR_ → tI_ → tI_ → tY_ → tZ_ → Option Unit) (l2 : Int32) (l3 : Int32) (l7 : Int32) (l8 : Int32) (l9 : Int32) (l10 : Int32) (l11 : Int32) (l12 : Int32) (l13 : Int32) (l14 : Int32) (l16 : Int32) (l17 : Int32) (k0_ : Int32) (D_ : tD_) (S_ : tS_) (V_ : tV_) (F_ : tF_) (R_ : tR_) (wv : tI_) (xv : tI_) (Y_ : tY_) (uv : tI_) (zv : tZ_) : Option (Unit) :=
match D_ with
| (dhasSaved, dkeptError, dmoved) =>
match V_ with
| (vkeys, vfirsts, vends, vvalues, vinferred, vgone, vmade) =>
match F_ with
| (fkeys, fdays, famounts, fversions, fcount) =>
match R_ with
| (rkeys, rdays, rvalues, rcount) =>
f_law_B3_L443 xs L K mw (f_law_B3_X443 xs L K mw k953 k1022) fu_ l2 l3 l7 l8 l9 l10 l11 l12 l13 l14 l16 l17 k0_ (0 : Int32) (dhasSaved, dkeptError, dmoved) () (vkeys, vfirsts, vends, vvalues, vinferred, vgone, vmade) (fkeys, fdays, famounts, fversions, fcount) (rkeys, rdays, rvalues, rcount) wv xv () uv zv
def f_law_B3_J437 (xs : Nat → Int32) (L K mw : Nat) (k953 : Int32 → Int32 → Int32 → Int32 → Int32 → Int32 → tD_ → tS_ → tV_ → tF_ → tR_ → tI_ → tI_ → tY_ → tI_ → tZ_ → Option Unit) (k1022 : Int32 → Int32 → Int32 → Int32 → Int32 → Int32 → tD_ → tS_ → tV_ → tF_ → tR_ → tI_ → tI_ → tY_ → tZ_ → Option Unit) (l2 : Int32) (l3 : Int32) (l7 : Int32) (l8 : Int32) (l9 : Int32) (l10 : Int32) (l11 : Int32) (l12 : Int32) (l13 : Int32) (l14 : Int32) (l16 : Int32) (l17 : Int32) (D_ : tD_) (S_ : tS_) (V_ : tV_) (F_ : tF_) (R_ : tR_) (wv : tI_) (xv : tI_) (Y_ : tY_) (uv : tI_) (zv : tZ_) : Option (Unit) :=
match D_ with
| (dhasSaved, dkeptError, dmoved) =>
match V_ with
| (vkeys, vfirsts, vends, vvalues, vinferred, vgone, vmade) =>
match F_ with
| (fkeys, fdays, famounts, fversions, fcount) =>
match R_ with
| (rkeys, rdays, rvalues, rcount) =>
f_law_B3_J438 xs L K mw k953 k1022 l2 l3 l7 l8 l9 l10 l11 l12 l13 l14 l16 l17 (0 : Int32) (dhasSaved, dkeptError, dmoved) () (vkeys, vfirsts, vends, vvalues, vinferred, vgone, vmade) (fkeys, fdays, famounts, fversions, fcount) (rkeys, rdays, rvalues, rcount) wv xv () uv zv
def f_law_B3_J408 (xs : Nat → Int32) (L K mw : Nat) (k953 : Int32 → Int32 → Int32 → Int32 → Int32 → Int32 → tD_ → tS_ → tV_ → tF_ → tR_ → tI_ → tI_ → tY_ → tI_ → tZ_ → Option Unit) (k1022 : Int32 → Int32 → Int32 → Int32 → Int32 → Int32 → tD_ → tS_ → tV_ → tF_ → tR_ → tI_ → tI_ → tY_ → tZ_ → Option Unit) (l2 : Int32) (l3 : Int32) (l7 : Int32) (l8 : Int32) (l9 : Int32) (l10 : Int32) (l11 : Int32) (l12 : Int32) (l13 : Int32) (l14 : Int32) (l16 : Int32) (l17 : Int32) (D_ : tD_) (S_ : tS_) (V_ : tV_) (F_ : tF_) (R_ : tR_) (wv : tI_) (xv : tI_) (Y_ : tY_) (uv : tI_) (zv : tZ_) : Option (Unit) :=
match D_ with
| (dhasSaved, dkeptError, dmoved) =>
match V_ with
| (vkeys, vfirsts, vends, vvalues, vinferred, vgone, vmade) =>
match F_ with
| (fkeys, fdays, famounts, fversions, fcount) =>
match R_ with
| (rkeys, rdays, rvalues, rcount) =>
if l16 < 0 then
f_law_B3_J437 xs L K mw k953 k1022 l2 l3 l7 l8 l9 l10 l11 l12 l13 l14 l16 l17 (dhasSaved, dkeptError, dmoved) () (vkeys, vfirsts, vends, vvalues, vinferred, vgone, vmade) (fkeys, fdays, famounts, fversions, fcount) (rkeys, rdays, rvalues, rcount) wv xv () uv zv
else
if l13 ≤ 0 then
f_law_B3_J437 xs L K mw k953 k1022 l2 l3 l7 l8 l9 l10 l11 l12 l13 l14 l16 l17 (dhasSaved, dkeptError, dmoved) () (vkeys, vfirsts, vends, vvalues, vinferred, vgone, vmade) (fkeys, fdays, famounts, fversions, fcount) (rkeys, rdays, rvalues, rcount) wv xv () uv zv
else
gd_ l12 K (
gd_ (l13 - 1) 1000 (
if (zv l12.toNatClampNeg (l13 - 1).toNatClampNeg) = l16 then
f_law_B3_J438 xs L K mw k953 k1022 l2 l3 l7 l8 l9 l10 l11 l12 l13 l14 l16 l17 (1 : Int32) (dhasSaved, dkeptError, dmoved) () (vkeys, vfirsts, vends, vvalues, vinferred, vgone, vmade) (fkeys, fdays, famounts, fversions, fcount) (rkeys, rdays, rvalues, rcount) wv xv () uv zv
else
f_law_B3_J437 xs L K mw k953 k1022 l2 l3 l7 l8 l9 l10 l11 l12 l13 l14 l16 l17 (dhasSaved, dkeptError, dmoved) () (vkeys, vfirsts, vends, vvalues, vinferred, vgone, vmade) (fkeys, fdays, famounts, fversions, fcount) (rkeys, rdays, rvalues, rcount) wv xv () uv zv))
def f_law_B3_X381 (xs : Nat → Int32) (L K mw : Nat) (k953 : Int32 → Int32 → Int32 → Int32 → Int32 → Int32 → tD_ → tS_ → tV_ → tF_ → tR_ → tI_ → tI_ → tY_ → tI_ → tZ_ → Option Unit) (k1022 : Int32 → Int32 → Int32 → Int32 → Int32 → Int32 → tD_ → tS_ → tV_ → tF_ → tR_ → tI_ → tI_ → tY_ → tZ_ → Option Unit) (l2 : Int32) (l3 : Int32) (l7 : Int32) (l8 : Int32) (l9 : Int32) (l10 : Int32) (l11 : Int32) (l12 : Int32) (l13 : Int32) (l14 : Int32) (l16 : Int32) (l17 : Int32) (D_ : tD_) (S_ : tS_) (V_ : tV_) (F_ : tF_) (R_ : tR_) (wv : tI_) (xv : tI_) (Y_ : tY_) (uv : tI_) (zv : tZ_) : Option (Unit) :=
match D_ with
| (dhasSaved, dkeptError, dmoved) =>
match V_ with
| (vkeys, vfirsts, vends, vvalues, vinferred, vgone, vmade) =>
match F_ with
| (fkeys, fdays, famounts, fversions, fcount) =>
match R_ with
| (rkeys, rdays, rvalues, rcount) =>
f_law_B3_J408 xs L K mw k953 k1022 l2 l3 l7 l8 l9 l10 l11 l12 l13 l14 l16 l17 (dhasSaved, dkeptError, dmoved) () (vkeys, vfirsts, vends, vvalues, vinferred, vgone, vmade) (fkeys, fdays, famounts, fversions, fcount) (rkeys, rdays, rvalues, rcount) wv xv () uv zv
def f_law_B3_S381 (xs : Nat → Int32) (L K mw : Nat) (kx381 : Int32 → Int32 → Int32 → Int32 → Int32 → Int32 → Int32 → Int32 → Int32 → Int32 → Int32 → Int32 → tD_ → tS_ → tV_ → tF_ → tR_ → tI_ → tI_ → tY_ → tI_ → tZ_ → Option (Unit)) (kl381 : Int32 → Int32 → Int32 → Int32 → Int32 → Int32 → Int32 → Int32 → Int32 → Int32 → Int32 → Int32 → tD_ → tS_ → tV_ → tF_ → tR_ → tI_ → tI_ → tY_ → tI_ → tZ_ → Option (Unit)) (l2 : Int32) (l3 : Int32) (l7 : Int32) (l8 : Int32) (l9 : Int32) (l10 : Int32) (l11 : Int32) (l12 : Int32) (l13 : Int32) (l14 : Int32) (l16 : Int32) (l17 : Int32) (D_ : tD_) (S_ : tS_) (V_ : tV_) (F_ : tF_) (R_ : tR_) (wv : tI_) (xv : tI_) (Y_ : tY_) (uv : tI_) (zv : tZ_) : Option (Unit) :=
match D_ with
| (dhasSaved, dkeptError, dmoved) =>
match V_ with
| (vkeys, vfirsts, vends, vvalues, vinferred, vgone, vmade) =>
match F_ with
| (fkeys, fdays, famounts, fversions, fcount) =>
match R_ with
| (rkeys, rdays, rvalues, rcount) =>
if 1000 ≤ l17 then
kx381 l2 l3 l7 l8 l9 l10 l11 l12 l13 l14 l16 l17 (dhasSaved, dkeptError, dmoved) () (vkeys, vfirsts, vends, vvalues, vinferred, vgone, vmade) (fkeys, fdays, famounts, fversions, fcount) (rkeys, rdays, rvalues, rcount) wv xv () uv zv
else
gd_ l12 K (
gd_ l17 1000 (
if (zv l12.toNatClampNeg l17.toNatClampNeg) = l16 then
kl381 l2 l3 l7 l8 l9 l10 l11 l12 l13 l14 l16 (l17 + 1) (dhasSaved, dkeptError, dmoved) () (vkeys, vfirsts, vends, vvalues, vinferred, vgone, vmade) (fkeys, fdays, famounts, fversions, fcount) (rkeys, rdays, rvalues, rcount) wv xv () uv zv
else
kx381 l2 l3 l7 l8 l9 l10 l11 l12 l13 l14 l16 l17 (dhasSaved, dkeptError, dmoved) () (vkeys, vfirsts, vends, vvalues, vinferred, vgone, vmade) (fkeys, fdays, famounts, fversions, fcount) (rkeys, rdays, rvalues, rcount) wv xv () uv zv))
def f_law_B3_L381 (xs : Nat → Int32) (L K mw : Nat) (kx381 : Int32 → Int32 → Int32 → Int32 → Int32 → Int32 → Int32 → Int32 → Int32 → Int32 → Int32 → Int32 → tD_ → tS_ → tV_ → tF_ → tR_ → tI_ → tI_ → tY_ → tI_ → tZ_ → Option (Unit)) : Nat → Int32 → Int32 → Int32 → Int32 → Int32 → Int32 → Int32 → Int32 → Int32 → Int32 → Int32 → Int32 → tD_ → tS_ → tV_ → tF_ → tR_ → tI_ → tI_ → tY_ → tI_ → tZ_ → Option (Unit)
  | 0 => fun _ _ _ _ _ _ _ _ _ _ _ _ _ _ _ _ _ _ _ _ _ _ => none
  | n + 1 => fun l2 l3 l7 l8 l9 l10 l11 l12 l13 l14 l16 l17 D_ S_ V_ F_ R_ wv xv Y_ uv zv => f_law_B3_S381 xs L K mw kx381 (f_law_B3_L381 xs L K mw kx381 n) l2 l3 l7 l8 l9 l10 l11 l12 l13 l14 l16 l17 D_ S_ V_ F_ R_ wv xv Y_ uv zv
def f_law_B3 (xs : Nat → Int32) (L K mw : Nat) (k953 : Int32 → Int32 → Int32 → Int32 → Int32 → Int32 → tD_ → tS_ → tV_ → tF_ → tR_ → tI_ → tI_ → tY_ → tI_ → tZ_ → Option Unit) (k1022 : Int32 → Int32 → Int32 → Int32 → Int32 → Int32 → tD_ → tS_ → tV_ → tF_ → tR_ → tI_ → tI_ → tY_ → tZ_ → Option Unit) (l2 : Int32) (l3 : Int32) (l7 : Int32) (l8 : Int32) (l9 : Int32) (l10 : Int32) (l11 : Int32) (l12 : Int32) (l13 : Int32) (l14 : Int32) (D_ : tD_) (S_ : tS_) (V_ : tV_) (F_ : tF_) (R_ : tR_) (wv : tI_) (xv : tI_) (Y_ : tY_) (uv : tI_) (zv : tZ_) : Option Unit :=
match D_ with
| (dhasSaved, dkeptError, dmoved) =>
match V_ with
| (vkeys, vfirsts, vends, vvalues, vinferred, vgone, vmade) =>
match F_ with
| (fkeys, fdays, famounts, fversions, fcount) =>
match R_ with
| (rkeys, rdays, rvalues, rcount) =>
gd_ l12 K (
gd_ l13 1000 (
f_law_B3_L381 xs L K mw (f_law_B3_X381 xs L K mw k953 k1022) fu_ l2 l3 l7 l8 l9 l10 l11 l12 l13 l14 (zv l12.toNatClampNeg l13.toNatClampNeg) l13 (dhasSaved, dkeptError, dmoved) () (vkeys, vfirsts, vends, vvalues, vinferred, vgone, vmade) (fkeys, fdays, famounts, fversions, fcount) (rkeys, rdays, rvalues, rcount) wv xv () uv zv))
def f_law_B4_J774 (xs : Nat → Int32) (L K mw : Nat) (k953 : Int32 → Int32 → Int32 → Int32 → Int32 → Int32 → tD_ → tS_ → tV_ → tF_ → tR_ → tI_ → tI_ → tY_ → tI_ → tZ_ → Option Unit) (k1022 : Int32 → Int32 → Int32 → Int32 → Int32 → Int32 → tD_ → tS_ → tV_ → tF_ → tR_ → tI_ → tI_ → tY_ → tZ_ → Option Unit) (l2 : Int32) (l3 : Int32) (l7 : Int32) (l8 : Int32) (l9 : Int32) (l10 : Int32) (l11 : Int32) (l12 : Int32) (l13 : Int32) (l14 : Int32) (l16 : Int32) (l17 : Int32) (l18 : Int32) (l19 : Int32) (l20 : Int32) (l21 : Int32) (D_ : tD_) (S_ : tS_) (V_ : tV_) (F_ : tF_) (R_ : tR_) (wv : tI_) (xv : tI_) (Y_ : tY_) (uv : tI_) (zv : tZ_) : Option (Unit) :=
match D_ with
| (dhasSaved, dkeptError, dmoved) =>
match V_ with
| (vkeys, vfirsts, vends, vvalues, vinferred, vgone, vmade) =>
match F_ with
| (fkeys, fdays, famounts, fversions, fcount) =>
match R_ with
| (rkeys, rdays, rvalues, rcount) =>
gd_ l12 K (
bd_ (f_L_fill l17 l18 l19 (zv l12.toNatClampNeg)) (fun yv33 =>
nm_ ((rup zv l12.toNatClampNeg yv33)) (fun u34 =>
k953 l2 l3 l7 l8 l9 l10 (dhasSaved, dkeptError, dmoved) () (vkeys, vfirsts, vends, vvalues, vinferred, vgone, vmade) (fkeys, fdays, famounts, fversions, fcount) (rkeys, rdays, rvalues, rcount) wv xv () uv u34)))
def f_law_B4_J756 (xs : Nat → Int32) (L K mw : Nat) (k953 : Int32 → Int32 → Int32 → Int32 → Int32 → Int32 → tD_ → tS_ → tV_ → tF_ → tR_ → tI_ → tI_ → tY_ → tI_ → tZ_ → Option Unit) (k1022 : Int32 → Int32 → Int32 → Int32 → Int32 → Int32 → tD_ → tS_ → tV_ → tF_ → tR_ → tI_ → tI_ → tY_ → tZ_ → Option Unit) (l2 : Int32) (l3 : Int32) (l7 : Int32) (l8 : Int32) (l9 : Int32) (l10 : Int32) (l11 : Int32) (l12 : Int32) (l13 : Int32) (l14 : Int32) (l16 : Int32) (l17 : Int32) (l18 : Int32) (l19 : Int32) (l20 : Int32) (l21 : Int32) (k0_ : Int32) (k1_ : Int32) (D_ : tD_) (S_ : tS_) (V_ : tV_) (F_ : tF_) (R_ : tR_) (wv : tI_) (xv : tI_) (Y_ : tY_) (uv : tI_) (zv : tZ_) : Option (Unit) :=
match D_ with
| (dhasSaved, dkeptError, dmoved) =>
match V_ with
| (vkeys, vfirsts, vends, vvalues, vinferred, vgone, vmade) =>
match F_ with
| (fkeys, fdays, famounts, fversions, fcount) =>
match R_ with
| (rkeys, rdays, rvalues, rcount) =>
if k0_ = k1_ then
if 0 ≤ l19 then
f_law_B4_J774 xs L K mw k953 k1022 l2 l3 l7 l8 l9 l10 l11 l12 l13 l14 l16 l17 l18 l19 l20 l21 (dhasSaved, dkeptError, dmoved) () (vkeys, vfirsts, vends, vvalues, vinferred, vgone, vmade) (fkeys, fdays, famounts, fversions, fcount) (rkeys, rdays, rvalues, rcount) wv xv () uv zv
else
if l20 ≤ 0 then
f_law_B4_J774 xs L K mw k953 k1022 l2 l3 l7 l8 l9 l10 l11 l12 l13 l14 l16 l17 l18 l19 l20 l21 (dhasSaved, dkeptError, dmoved) () (vkeys, vfirsts, vends, vvalues, vinferred, vgone, vmade) (fkeys, fdays, famounts, fversions, fcount) (rkeys, rdays, rvalues, rcount) wv xv () uv zv
else
k1022 l2 l3 l7 l8 l9 l10 (dhasSaved, dkeptError, dmoved) () (vkeys, vfirsts, vends, vvalues, vinferred, vgone, vmade) (fkeys, fdays, famounts, fversions, fcount) (rkeys, rdays, rvalues, rcount) wv xv () zv
else
none
def f_law_B4_J754 (xs : Nat → Int32) (L K mw : Nat) (k953 : Int32 → Int32 → Int32 → Int32 → Int32 → Int32 → tD_ → tS_ → tV_ → tF_ → tR_ → tI_ → tI_ → tY_ → tI_ → tZ_ → Option Unit) (k1022 : Int32 → Int32 → Int32 → Int32 → Int32 → Int32 → tD_ → tS_ → tV_ → tF_ → tR_ → tI_ → tI_ → tY_ → tZ_ → Option Unit) (l2 : Int32) (l3 : Int32) (l7 : Int32) (l8 : Int32) (l9 : Int32) (l10 : Int32) (l11 : Int32) (l12 : Int32) (l13 : Int32) (l14 : Int32) (l16 : Int32) (l17 : Int32) (l18 : Int32) (l19 : Int32) (l20 : Int32) (l21 : Int32) (k0_ : Int32) (D_ : tD_) (S_ : tS_) (V_ : tV_) (F_ : tF_) (R_ : tR_) (wv : tI_) (xv : tI_) (Y_ : tY_) (uv : tI_) (zv : tZ_) : Option (Unit) :=
match D_ with
| (dhasSaved, dkeptError, dmoved) =>
match V_ with
| (vkeys, vfirsts, vends, vvalues, vinferred, vgone, vmade) =>
match F_ with
| (fkeys, fdays, famounts, fversions, fcount) =>
match R_ with
| (rkeys, rdays, rvalues, rcount) =>
f_law_B4_J756 xs L K mw k953 k1022 l2 l3 l7 l8 l9 l10 l11 l12 l13 l14 l16 l17 l18 l19 l20 l21 k0_ l20 (dhasSaved, dkeptError, dmoved) () (vkeys, vfirsts, vends, vvalues, vinferred, vgone, vmade) (fkeys, fdays, famounts, fversions, fcount) (rkeys, rdays, rvalues, rcount) wv xv () uv zv
def f_law_B4_J724 (xs : Nat → Int32) (L K mw : Nat) (kx678 : Int32 → Int32 → Int32 → Int32 → Int32 → Int32 → Int32 → Int32 → Int32 → Int32 → Int32 → Int32 → Int32 → Int32 → Int32 → Int32 → tD_ → tS_ → tV_ → tF_ → tR_ → tI_ → tI_ → tY_ → tI_ → tZ_ → Option (Unit)) (kl678 : Int32 → Int32 → Int32 → Int32 → Int32 → Int32 → Int32 → Int32 → Int32 → Int32 → Int32 → Int32 → Int32 → Int32 → Int32 → Int32 → tD_ → tS_ → tV_ → tF_ → tR_ → tI_ → tI_ → tY_ → tI_ → tZ_ → Option (Unit)) (l2 : Int32) (l3 : Int32) (l7 : Int32) (l8 : Int32) (l9 : Int32) (l10 : Int32) (l11 : Int32) (l12 : Int32) (l13 : Int32) (l14 : Int32) (l16 : Int32) (l17 : Int32) (l18 : Int32) (l19 : Int32) (l20 : Int32) (l21 : Int32) (k0_ : Int32) (k1_ : Int32) (D_ : tD_) (S_ : tS_) (V_ : tV_) (F_ : tF_) (R_ : tR_) (wv : tI_) (xv : tI_) (Y_ : tY_) (uv : tI_) (zv : tZ_) : Option (Unit) :=
match D_ with
| (dhasSaved, dkeptError, dmoved) =>
match V_ with
| (vkeys, vfirsts, vends, vvalues, vinferred, vgone, vmade) =>
match F_ with
| (fkeys, fdays, famounts, fversions, fcount) =>
match R_ with
| (rkeys, rdays, rvalues, rcount) =>
kl678 l2 l3 l7 l8 l9 l10 l11 l12 l13 l14 l16 l17 l18 l19 (k0_ + k1_) (l21 + 1) (dhasSaved, dkeptError, dmoved) () (vkeys, vfirsts, vends, vvalues, vinferred, vgone, vmade) (fkeys, fdays, famounts, fversions, fcount) (rkeys, rdays, rvalues, rcount) wv xv () uv zv
def f_law_B4_J723 (xs : Nat → Int32) (L K mw : Nat) (kx678 : Int32 → Int32 → Int32 → Int32 → Int32 → Int32 → Int32 → Int32 → Int32 → Int32 → Int32 → Int32 → Int32 → Int32 → Int32 → Int32 → tD_ → tS_ → tV_ → tF_ → tR_ → tI_ → tI_ → tY_ → tI_ → tZ_ → Option (Unit)) (kl678 : Int32 → Int32 → Int32 → Int32 → Int32 → Int32 → Int32 → Int32 → Int32 → Int32 → Int32 → Int32 → Int32 → Int32 → Int32 → Int32 → tD_ → tS_ → tV_ → tF_ → tR_ → tI_ → tI_ → tY_ → tI_ → tZ_ → Option (Unit)) (l2 : Int32) (l3 : Int32) (l7 : Int32) (l8 : Int32) (l9 : Int32) (l10 : Int32) (l11 : Int32) (l12 : Int32) (l13 : Int32) (l14 : Int32) (l16 : Int32) (l17 : Int32) (l18 : Int32) (l19 : Int32) (l20 : Int32) (l21 : Int32) (k0_ : Int32) (D_ : tD_) (S_ : tS_) (V_ : tV_) (F_ : tF_) (R_ : tR_) (wv : tI_) (xv : tI_) (Y_ : tY_) (uv : tI_) (zv : tZ_) : Option (Unit) :=
match D_ with
| (dhasSaved, dkeptError, dmoved) =>
match V_ with
| (vkeys, vfirsts, vends, vvalues, vinferred, vgone, vmade) =>
match F_ with
| (fkeys, fdays, famounts, fversions, fcount) =>
match R_ with
| (rkeys, rdays, rvalues, rcount) =>
f_law_B4_J724 xs L K mw kx678 kl678 l2 l3 l7 l8 l9 l10 l11 l12 l13 l14 l16 l17 l18 l19 l20 l21 k0_ (0 : Int32) (dhasSaved, dkeptError, dmoved) () (vkeys, vfirsts, vends, vvalues, vinferred, vgone, vmade) (fkeys, fdays, famounts, fversions, fcount) (rkeys, rdays, rvalues, rcount) wv xv () uv zv
def f_law_B4_X678 (xs : Nat → Int32) (L K mw : Nat) (k953 : Int32 → Int32 → Int32 → Int32 → Int32 → Int32 → tD_ → tS_ → tV_ → tF_ → tR_ → tI_ → tI_ → tY_ → tI_ → tZ_ → Option Unit) (k1022 : Int32 → Int32 → Int32 → Int32 → Int32 → Int32 → tD_ → tS_ → tV_ → tF_ → tR_ → tI_ → tI_ → tY_ → tZ_ → Option Unit) (l2 : Int32) (l3 : Int32) (l7 : Int32) (l8 : Int32) (l9 : Int32) (l10 : Int32) (l11 : Int32) (l12 : Int32) (l13 : Int32) (l14 : Int32) (l16 : Int32) (l17 : Int32) (l18 : Int32) (l19 : Int32) (l20 : Int32) (l21 : Int32) (D_ : tD_) (S_ : tS_) (V_ : tV_) (F_ : tF_) (R_ : tR_) (wv : tI_) (xv : tI_) (Y_ : tY_) (uv : tI_) (zv : tZ_) : Option (Unit) :=
match D_ with
| (dhasSaved, dkeptError, dmoved) =>
match V_ with
| (vkeys, vfirsts, vends, vvalues, vinferred, vgone, vmade) =>
match F_ with
| (fkeys, fdays, famounts, fversions, fcount) =>
match R_ with
| (rkeys, rdays, rvalues, rcount) =>
bd_ (f_L_remove l16 (dhasSaved, dkeptError, dmoved) () (vkeys, vfirsts, vends, vvalues, vinferred, vgone, vmade) (fkeys, fdays, famounts, fversions, fcount) (rkeys, rdays, rvalues, rcount)) (fun (r5, (dh6, dk7, dm8), (vk9, vf10, ve11, vv12, vi13, vg14, vm15), (fk16, fd17, fa18, fv19, fc20)) =>
if 0 ≤ l19 then
f_law_B4_J754 xs L K mw k953 k1022 l2 l3 l7 l8 l9 l10 l11 l12 l13 l14 l16 l17 l18 l19 l20 l21 r5 (dh6, dk7, dm8) () (vk9, vf10, ve11, vv12, vi13, vg14, vm15) (fk16, fd17, fa18, fv19, fc20) (rkeys, rdays, rvalues, rcount) wv xv () uv zv
else
if l20 ≤ 0 then
f_law_B4_J754 xs L K mw k953 k1022 l2 l3 l7 l8 l9 l10 l11 l12 l13 l14 l16 l17 l18 l19 l20 l21 r5 (dh6, dk7, dm8) () (vk9, vf10, ve11, vv12, vi13, vg14, vm15) (fk16, fd17, fa18, fv19, fc20) (rkeys, rdays, rvalues, rcount) wv xv () uv zv
else
f_law_B4_J756 xs L K mw k953 k1022 l2 l3 l7 l8 l9 l10 l11 l12 l13 l14 l16 l17 l18 l19 l20 l21 r5 (-2 : Int32) (dh6, dk7, dm8) () (vk9, vf10, ve11, vv12, vi13, vg14, vm15) (fk16, fd17, fa18, fv19, fc20) (rkeys, rdays, rvalues, rcount) wv xv () uv zv)
def f_law_B4_S678 (xs : Nat → Int32) (L K mw : Nat) (kx678 : Int32 → Int32 → Int32 → Int32 → Int32 → Int32 → Int32 → Int32 → Int32 → Int32 → Int32 → Int32 → Int32 → Int32 → Int32 → Int32 → tD_ → tS_ → tV_ → tF_ → tR_ → tI_ → tI_ → tY_ → tI_ → tZ_ → Option (Unit)) (kl678 : Int32 → Int32 → Int32 → Int32 → Int32 → Int32 → Int32 → Int32 → Int32 → Int32 → Int32 → Int32 → Int32 → Int32 → Int32 → Int32 → tD_ → tS_ → tV_ → tF_ → tR_ → tI_ → tI_ → tY_ → tI_ → tZ_ → Option (Unit)) (l2 : Int32) (l3 : Int32) (l7 : Int32) (l8 : Int32) (l9 : Int32) (l10 : Int32) (l11 : Int32) (l12 : Int32) (l13 : Int32) (l14 : Int32) (l16 : Int32) (l17 : Int32) (l18 : Int32) (l19 : Int32) (l20 : Int32) (l21 : Int32) (D_ : tD_) (S_ : tS_) (V_ : tV_) (F_ : tF_) (R_ : tR_) (wv : tI_) (xv : tI_) (Y_ : tY_) (uv : tI_) (zv : tZ_) : Option (Unit) :=
match D_ with
| (dhasSaved, dkeptError, dmoved) =>
match V_ with
| (vkeys, vfirsts, vends, vvalues, vinferred, vgone, vmade) =>
match F_ with
| (fkeys, fdays, famounts, fversions, fcount) =>
match R_ with
| (rkeys, rdays, rvalues, rcount) =>
if l8 ≤ l21 then
kx678 l2 l3 l7 l8 l9 l10 l11 l12 l13 l14 l16 l17 l18 l19 l20 l21 (dhasSaved, dkeptError, dmoved) () (vkeys, vfirsts, vends, vvalues, vinferred, vgone, vmade) (fkeys, fdays, famounts, fversions, fcount) (rkeys, rdays, rvalues, rcount) wv xv () uv zv
else
gd_ (3 * l21) 180 (
if (xv (3 * l21).toNatClampNeg) = l12 then
gd_ l12 K (
gd_ ((3 * l21) + 1) 180 (
gd_ (xv ((3 * l21) + 1).toNatClampNeg) 1000 (
if (zv l12.toNatClampNeg (xv ((3 * l21) + 1).toNatClampNeg).toNatClampNeg) = l16 then
f_law_B4_J724 xs L K mw kx678 kl678 l2 l3 l7 l8 l9 l10 l11 l12 l13 l14 l16 l17 l18 l19 l20 l21 l20 (1 : Int32) (dhasSaved, dkeptError, dmoved) () (vkeys, vfirsts, vends, vvalues, vinferred, vgone, vmade) (fkeys, fdays, famounts, fversions, fcount) (rkeys, rdays, rvalues, rcount) wv xv () uv zv
else
f_law_B4_J723 xs L K mw kx678 kl678 l2 l3 l7 l8 l9 l10 l11 l12 l13 l14 l16 l17 l18 l19 l20 l21 l20 (dhasSaved, dkeptError, dmoved) () (vkeys, vfirsts, vends, vvalues, vinferred, vgone, vmade) (fkeys, fdays, famounts, fversions, fcount) (rkeys, rdays, rvalues, rcount) wv xv () uv zv)))
else
f_law_B4_J723 xs L K mw kx678 kl678 l2 l3 l7 l8 l9 l10 l11 l12 l13 l14 l16 l17 l18 l19 l20 l21 l20 (dhasSaved, dkeptError, dmoved) () (vkeys, vfirsts, vends, vvalues, vinferred, vgone, vmade) (fkeys, fdays, famounts, fversions, fcount) (rkeys, rdays, rvalues, rcount) wv xv () uv zv)
def f_law_B4_L678 (xs : Nat → Int32) (L K mw : Nat) (kx678 : Int32 → Int32 → Int32 → Int32 → Int32 → Int32 → Int32 → Int32 → Int32 → Int32 → Int32 → Int32 → Int32 → Int32 → Int32 → Int32 → tD_ → tS_ → tV_ → tF_ → tR_ → tI_ → tI_ → tY_ → tI_ → tZ_ → Option (Unit)) : Nat → Int32 → Int32 → Int32 → Int32 → Int32 → Int32 → Int32 → Int32 → Int32 → Int32 → Int32 → Int32 → Int32 → Int32 → Int32 → Int32 → tD_ → tS_ → tV_ → tF_ → tR_ → tI_ → tI_ → tY_ → tI_ → tZ_ → Option (Unit)
  | 0 => fun _ _ _ _ _ _ _ _ _ _ _ _ _ _ _ _ _ _ _ _ _ _ _ _ _ _ => none
  | n + 1 => fun l2 l3 l7 l8 l9 l10 l11 l12 l13 l14 l16 l17 l18 l19 l20 l21 D_ S_ V_ F_ R_ wv xv Y_ uv zv => f_law_B4_S678 xs L K mw kx678 (f_law_B4_L678 xs L K mw kx678 n) l2 l3 l7 l8 l9 l10 l11 l12 l13 l14 l16 l17 l18 l19 l20 l21 D_ S_ V_ F_ R_ wv xv Y_ uv zv
def f_law_B4_J670 (xs : Nat → Int32) (L K mw : Nat) (k953 : Int32 → Int32 → Int32 → Int32 → Int32 → Int32 → tD_ → tS_ → tV_ → tF_ → tR_ → tI_ → tI_ → tY_ → tI_ → tZ_ → Option Unit) (k1022 : Int32 → Int32 → Int32 → Int32 → Int32 → Int32 → tD_ → tS_ → tV_ → tF_ → tR_ → tI_ → tI_ → tY_ → tZ_ → Option Unit) (l2 : Int32) (l3 : Int32) (l7 : Int32) (l8 : Int32) (l9 : Int32) (l10 : Int32) (l11 : Int32) (l12 : Int32) (l13 : Int32) (l14 : Int32) (l16 : Int32) (l17 : Int32) (l18 : Int32) (k0_ : Int32) (D_ : tD_) (S_ : tS_) (V_ : tV_) (F_ : tF_) (R_ : tR_) (wv : tI_) (xv : tI_) (Y_ : tY_) (uv : tI_) (zv : tZ_) : Option (Unit) :=
match D_ with
| (dhasSaved, dkeptError, dmoved) =>
match V_ with
| (vkeys, vfirsts, vends, vvalues, vinferred, vgone, vmade) =>
match F_ with
| (fkeys, fdays, famounts, fversions, fcount) =>
match R_ with
| (rkeys, rdays, rvalues, rcount) =>
f_law_B4_L678 xs L K mw (f_law_B4_X678 xs L K mw k953 k1022) fu_ l2 l3 l7 l8 l9 l10 l11 l12 l13 l14 l16 l17 l18 k0_ (0 : Int32) (0 : Int32) (dhasSaved, dkeptError, dmoved) () (vkeys, vfirsts, vends, vvalues, vinferred, vgone, vmade) (fkeys, fdays, famounts, fversions, fcount) (rkeys, rdays, rvalues, rcount) wv xv () uv zv
def f_law_B4_J651 (xs : Nat → Int32) (L K mw : Nat) (k953 : Int32 → Int32 → Int32 → Int32 → Int32 → Int32 → tD_ → tS_ → tV_ → tF_ → tR_ → tI_ → tI_ → tY_ → tI_ → tZ_ → Option Unit) (k1022 : Int32 → Int32 → Int32 → Int32 → Int32 → Int32 → tD_ → tS_ → tV_ → tF_ → tR_ → tI_ → tI_ → tY_ → tZ_ → Option Unit) (l2 : Int32) (l3 : Int32) (l7 : Int32) (l8 : Int32) (l9 : Int32) (l10 : Int32) (l11 : Int32) (l12 : Int32) (l13 : Int32) (l14 : Int32) (l16 : Int32) (l17 : Int32) (l18 : Int32) (D_ : tD_) (S_ : tS_) (V_ : tV_) (F_ : tF_) (R_ : tR_) (wv : tI_) (xv : tI_) (Y_ : tY_) (uv : tI_) (zv : tZ_) : Option (Unit) :=
match D_ with
| (dhasSaved, dkeptError, dmoved) =>
match V_ with
| (vkeys, vfirsts, vends, vvalues, vinferred, vgone, vmade) =>
match F_ with
| (fkeys, fdays, famounts, fversions, fcount) =>
match R_ with
| (rkeys, rdays, rvalues, rcount) =>
if l17 ≤ 0 then
f_law_B4_J670 xs L K mw k953 k1022 l2 l3 l7 l8 l9 l10 l11 l12 l13 l14 l16 l17 l18 (-1 : Int32) (dhasSaved, dkeptError, dmoved) () (vkeys, vfirsts, vends, vvalues, vinferred, vgone, vmade) (fkeys, fdays, famounts, fversions, fcount) (rkeys, rdays, rvalues, rcount) wv xv () uv zv
else
gd_ l12 K (
gd_ (l17 - 1) 1000 (
f_law_B4_J670 xs L K mw k953 k1022 l2 l3 l7 l8 l9 l10 l11 l12 l13 l14 l16 l17 l18 (zv l12.toNatClampNeg (l17 - 1).toNatClampNeg) (dhasSaved, dkeptError, dmoved) () (vkeys, vfirsts, vends, vvalues, vinferred, vgone, vmade) (fkeys, fdays, famounts, fversions, fcount) (rkeys, rdays, rvalues, rcount) wv xv () uv zv))
def f_law_B4_X624 (xs : Nat → Int32) (L K mw : Nat) (k953 : Int32 → Int32 → Int32 → Int32 → Int32 → Int32 → tD_ → tS_ → tV_ → tF_ → tR_ → tI_ → tI_ → tY_ → tI_ → tZ_ → Option Unit) (k1022 : Int32 → Int32 → Int32 → Int32 → Int32 → Int32 → tD_ → tS_ → tV_ → tF_ → tR_ → tI_ → tI_ → tY_ → tZ_ → Option Unit) (l2 : Int32) (l3 : Int32) (l7 : Int32) (l8 : Int32) (l9 : Int32) (l10 : Int32) (l11 : Int32) (l12 : Int32) (l13 : Int32) (l14 : Int32) (l16 : Int32) (l17 : Int32) (l18 : Int32) (D_ : tD_) (S_ : tS_) (V_ : tV_) (F_ : tF_) (R_ : tR_) (wv : tI_) (xv : tI_) (Y_ : tY_) (uv : tI_) (zv : tZ_) : Option (Unit) :=
match D_ with
| (dhasSaved, dkeptError, dmoved) =>
match V_ with
| (vkeys, vfirsts, vends, vvalues, vinferred, vgone, vmade) =>
match F_ with
| (fkeys, fdays, famounts, fversions, fcount) =>
match R_ with
| (rkeys, rdays, rvalues, rcount) =>
f_law_B4_J651 xs L K mw k953 k1022 l2 l3 l7 l8 l9 l10 l11 l12 l13 l14 l16 l17 l18 (dhasSaved, dkeptError, dmoved) () (vkeys, vfirsts, vends, vvalues, vinferred, vgone, vmade) (fkeys, fdays, famounts, fversions, fcount) (rkeys, rdays, rvalues, rcount) wv xv () uv zv
def f_law_B4_S624 (xs : Nat → Int32) (L K mw : Nat) (kx624 : Int32 → Int32 → Int32 → Int32 → Int32 → Int32 → Int32 → Int32 → Int32 → Int32 → Int32 → Int32 → Int32 → tD_ → tS_ → tV_ → tF_ → tR_ → tI_ → tI_ → tY_ → tI_ → tZ_ → Option (Unit)) (kl624 : Int32 → Int32 → Int32 → Int32 → Int32 → Int32 → Int32 → Int32 → Int32 → Int32 → Int32 → Int32 → Int32 → tD_ → tS_ → tV_ → tF_ → tR_ → tI_ → tI_ → tY_ → tI_ → tZ_ → Option (Unit)) (l2 : Int32) (l3 : Int32) (l7 : Int32) (l8 : Int32) (l9 : Int32) (l10 : Int32) (l11 : Int32) (l12 : Int32) (l13 : Int32) (l14 : Int32) (l16 : Int32) (l17 : Int32) (l18 : Int32) (D_ : tD_) (S_ : tS_) (V_ : tV_) (F_ : tF_) (R_ : tR_) (wv : tI_) (xv : tI_) (Y_ : tY_) (uv : tI_) (zv : tZ_) : Option (Unit) :=
match D_ with
| (dhasSaved, dkeptError, dmoved) =>
match V_ with
| (vkeys, vfirsts, vends, vvalues, vinferred, vgone, vmade) =>
match F_ with
| (fkeys, fdays, famounts, fversions, fcount) =>
match R_ with
| (rkeys, rdays, rvalues, rcount) =>
if 1000 ≤ l18 then
kx624 l2 l3 l7 l8 l9 l10 l11 l12 l13 l14 l16 l17 l18 (dhasSaved, dkeptError, dmoved) () (vkeys, vfirsts, vends, vvalues, vinferred, vgone, vmade) (fkeys, fdays, famounts, fversions, fcount) (rkeys, rdays, rvalues, rcount) wv xv () uv zv
else
gd_ l12 K (
gd_ l18 1000 (
if (zv l12.toNatClampNeg l18.toNatClampNeg) = l16 then
kl624 l2 l3 l7 l8 l9 l10 l11 l12 l13 l14 l16 l17 (l18 + 1) (dhasSaved, dkeptError, dmoved) () (vkeys, vfirsts, vends, vvalues, vinferred, vgone, vmade) (fkeys, fdays, famounts, fversions, fcount) (rkeys, rdays, rvalues, rcount) wv xv () uv zv
else
kx624 l2 l3 l7 l8 l9 l10 l11 l12 l13 l14 l16 l17 l18 (dhasSaved, dkeptError, dmoved) () (vkeys, vfirsts, vends, vvalues, vinferred, vgone, vmade) (fkeys, fdays, famounts, fversions, fcount) (rkeys, rdays, rvalues, rcount) wv xv () uv zv))
def f_law_B4_L624 (xs : Nat → Int32) (L K mw : Nat) (kx624 : Int32 → Int32 → Int32 → Int32 → Int32 → Int32 → Int32 → Int32 → Int32 → Int32 → Int32 → Int32 → Int32 → tD_ → tS_ → tV_ → tF_ → tR_ → tI_ → tI_ → tY_ → tI_ → tZ_ → Option (Unit)) : Nat → Int32 → Int32 → Int32 → Int32 → Int32 → Int32 → Int32 → Int32 → Int32 → Int32 → Int32 → Int32 → Int32 → tD_ → tS_ → tV_ → tF_ → tR_ → tI_ → tI_ → tY_ → tI_ → tZ_ → Option (Unit)
  | 0 => fun _ _ _ _ _ _ _ _ _ _ _ _ _ _ _ _ _ _ _ _ _ _ _ => none
  | n + 1 => fun l2 l3 l7 l8 l9 l10 l11 l12 l13 l14 l16 l17 l18 D_ S_ V_ F_ R_ wv xv Y_ uv zv => f_law_B4_S624 xs L K mw kx624 (f_law_B4_L624 xs L K mw kx624 n) l2 l3 l7 l8 l9 l10 l11 l12 l13 l14 l16 l17 l18 D_ S_ V_ F_ R_ wv xv Y_ uv zv
def f_law_B4_J620 (xs : Nat → Int32) (L K mw : Nat) (k953 : Int32 → Int32 → Int32 → Int32 → Int32 → Int32 → tD_ → tS_ → tV_ → tF_ → tR_ → tI_ → tI_ → tY_ → tI_ → tZ_ → Option Unit) (k1022 : Int32 → Int32 → Int32 → Int32 → Int32 → Int32 → tD_ → tS_ → tV_ → tF_ → tR_ → tI_ → tI_ → tY_ → tZ_ → Option Unit) (l2 : Int32) (l3 : Int32) (l7 : Int32) (l8 : Int32) (l9 : Int32) (l10 : Int32) (l11 : Int32) (l12 : Int32) (l13 : Int32) (l14 : Int32) (l16 : Int32) (l17 : Int32) (D_ : tD_) (S_ : tS_) (V_ : tV_) (F_ : tF_) (R_ : tR_) (wv : tI_) (xv : tI_) (Y_ : tY_) (uv : tI_) (zv : tZ_) : Option (Unit) :=
match D_ with
| (dhasSaved, dkeptError, dmoved) =>
match V_ with
| (vkeys, vfirsts, vends, vvalues, vinferred, vgone, vmade) =>
match F_ with
| (fkeys, fdays, famounts, fversions, fcount) =>
match R_ with
| (rkeys, rdays, rvalues, rcount) =>
f_law_B4_L624 xs L K mw (f_law_B4_X624 xs L K mw k953 k1022) fu_ l2 l3 l7 l8 l9 l10 l11 l12 l13 l14 l16 l17 l13 (dhasSaved, dkeptError, dmoved) () (vkeys, vfirsts, vends, vvalues, vinferred, vgone, vmade) (fkeys, fdays, famounts, fversions, fcount) (rkeys, rdays, rvalues, rcount) wv xv () uv zv
def f_law_B4_X594 (xs : Nat → Int32) (L K mw : Nat) (k953 : Int32 → Int32 → Int32 → Int32 → Int32 → Int32 → tD_ → tS_ → tV_ → tF_ → tR_ → tI_ → tI_ → tY_ → tI_ → tZ_ → Option Unit) (k1022 : Int32 → Int32 → Int32 → Int32 → Int32 → Int32 → tD_ → tS_ → tV_ → tF_ → tR_ → tI_ → tI_ → tY_ → tZ_ → Option Unit) (l2 : Int32) (l3 : Int32) (l7 : Int32) (l8 : Int32) (l9 : Int32) (l10 : Int32) (l11 : Int32) (l12 : Int32) (l13 : Int32) (l14 : Int32) (l16 : Int32) (l17 : Int32) (D_ : tD_) (S_ : tS_) (V_ : tV_) (F_ : tF_) (R_ : tR_) (wv : tI_) (xv : tI_) (Y_ : tY_) (uv : tI_) (zv : tZ_) : Option (Unit) :=
match D_ with
| (dhasSaved, dkeptError, dmoved) =>
match V_ with
| (vkeys, vfirsts, vends, vvalues, vinferred, vgone, vmade) =>
match F_ with
| (fkeys, fdays, famounts, fversions, fcount) =>
match R_ with
| (rkeys, rdays, rvalues, rcount) =>
f_law_B4_J620 xs L K mw k953 k1022 l2 l3 l7 l8 l9 l10 l11 l12 l13 l14 l16 l17 (dhasSaved, dkeptError, dmoved) () (vkeys, vfirsts, vends, vvalues, vinferred, vgone, vmade) (fkeys, fdays, famounts, fversions, fcount) (rkeys, rdays, rvalues, rcount) wv xv () uv zv
def f_law_B4_S594 (xs : Nat → Int32) (L K mw : Nat) (kx594 : Int32 → Int32 → Int32 → Int32 → Int32 → Int32 → Int32 → Int32 → Int32 → Int32 → Int32 → Int32 → tD_ → tS_ → tV_ → tF_ → tR_ → tI_ → tI_ → tY_ → tI_ → tZ_ → Option (Unit)) (kl594 : Int32 → Int32 → Int32 → Int32 → Int32 → Int32 → Int32 → Int32 → Int32 → Int32 → Int32 → Int32 → tD_ → tS_ → tV_ → tF_ → tR_ → tI_ → tI_ → tY_ → tI_ → tZ_ → Option (Unit)) (l2 : Int32) (l3 : Int32) (l7 : Int32) (l8 : Int32) (l9 : Int32) (l10 : Int32) (l11 : Int32) (l12 : Int32) (l13 : Int32) (l14 : Int32) (l16 : Int32) (l17 : Int32) (D_ : tD_) (S_ : tS_) (V_ : tV_) (F_ : tF_) (R_ : tR_) (wv : tI_) (xv : tI_) (Y_ : tY_) (uv : tI_) (zv : tZ_) : Option (Unit) :=
match D_ with
| (dhasSaved, dkeptError, dmoved) =>
match V_ with
| (vkeys, vfirsts, vends, vvalues, vinferred, vgone, vmade) =>
match F_ with
| (fkeys, fdays, famounts, fversions, fcount) =>
match R_ with
| (rkeys, rdays, rvalues, rcount) =>
if l17 ≤ 0 then
kx594 l2 l3 l7 l8 l9 l10 l11 l12 l13 l14 l16 l17 (dhasSaved, dkeptError, dmoved) () (vkeys, vfirsts, vends, vvalues, vinferred, vgone, vmade) (fkeys, fdays, famounts, fversions, fcount) (rkeys, rdays, rvalues, rcount) wv xv () uv zv
else
gd_ l12 K (
gd_ (l17 - 1) 1000 (
if (zv l12.toNatClampNeg (l17 - 1).toNatClampNeg) = l16 then
kl594 l2 l3 l7 l8 l9 l10 l11 l12 l13 l14 l16 (l17 + (-1)) (dhasSaved, dkeptError, dmoved) () (vkeys, vfirsts, vends, vvalues, vinferred, vgone, vmade) (fkeys, fdays, famounts, fversions, fcount) (rkeys, rdays, rvalues, rcount) wv xv () uv zv
else
kx594 l2 l3 l7 l8 l9 l10 l11 l12 l13 l14 l16 l17 (dhasSaved, dkeptError, dmoved) () (vkeys, vfirsts, vends, vvalues, vinferred, vgone, vmade) (fkeys, fdays, famounts, fversions, fcount) (rkeys, rdays, rvalues, rcount) wv xv () uv zv))
def f_law_B4_L594 (xs : Nat → Int32) (L K mw : Nat) (kx594 : Int32 → Int32 → Int32 → Int32 → Int32 → Int32 → Int32 → Int32 → Int32 → Int32 → Int32 → Int32 → tD_ → tS_ → tV_ → tF_ → tR_ → tI_ → tI_ → tY_ → tI_ → tZ_ → Option (Unit)) : Nat → Int32 → Int32 → Int32 → Int32 → Int32 → Int32 → Int32 → Int32 → Int32 → Int32 → Int32 → Int32 → tD_ → tS_ → tV_ → tF_ → tR_ → tI_ → tI_ → tY_ → tI_ → tZ_ → Option (Unit)
  | 0 => fun _ _ _ _ _ _ _ _ _ _ _ _ _ _ _ _ _ _ _ _ _ _ => none
  | n + 1 => fun l2 l3 l7 l8 l9 l10 l11 l12 l13 l14 l16 l17 D_ S_ V_ F_ R_ wv xv Y_ uv zv => f_law_B4_S594 xs L K mw kx594 (f_law_B4_L594 xs L K mw kx594 n) l2 l3 l7 l8 l9 l10 l11 l12 l13 l14 l16 l17 D_ S_ V_ F_ R_ wv xv Y_ uv zv
def f_law_B4 (xs : Nat → Int32) (L K mw : Nat) (k953 : Int32 → Int32 → Int32 → Int32 → Int32 → Int32 → tD_ → tS_ → tV_ → tF_ → tR_ → tI_ → tI_ → tY_ → tI_ → tZ_ → Option Unit) (k1022 : Int32 → Int32 → Int32 → Int32 → Int32 → Int32 → tD_ → tS_ → tV_ → tF_ → tR_ → tI_ → tI_ → tY_ → tZ_ → Option Unit) (l2 : Int32) (l3 : Int32) (l7 : Int32) (l8 : Int32) (l9 : Int32) (l10 : Int32) (l11 : Int32) (l12 : Int32) (l13 : Int32) (l14 : Int32) (D_ : tD_) (S_ : tS_) (V_ : tV_) (F_ : tF_) (R_ : tR_) (wv : tI_) (xv : tI_) (Y_ : tY_) (uv : tI_) (zv : tZ_) : Option Unit :=
match D_ with
| (dhasSaved, dkeptError, dmoved) =>
match V_ with
| (vkeys, vfirsts, vends, vvalues, vinferred, vgone, vmade) =>
match F_ with
| (fkeys, fdays, famounts, fversions, fcount) =>
match R_ with
| (rkeys, rdays, rvalues, rcount) =>
gd_ l12 K (
gd_ l13 1000 (
if 0 ≤ (zv l12.toNatClampNeg l13.toNatClampNeg) then
f_law_B4_L594 xs L K mw (f_law_B4_X594 xs L K mw k953 k1022) fu_ l2 l3 l7 l8 l9 l10 l11 l12 l13 l14 (zv l12.toNatClampNeg l13.toNatClampNeg) l13 (dhasSaved, dkeptError, dmoved) () (vkeys, vfirsts, vends, vvalues, vinferred, vgone, vmade) (fkeys, fdays, famounts, fversions, fcount) (rkeys, rdays, rvalues, rcount) wv xv () uv zv
else
k1022 l2 l3 l7 l8 l9 l10 (dhasSaved, dkeptError, dmoved) () (vkeys, vfirsts, vends, vvalues, vinferred, vgone, vmade) (fkeys, fdays, famounts, fversions, fcount) (rkeys, rdays, rvalues, rcount) wv xv () zv))
def f_law_B5_J931 (xs : Nat → Int32) (L K mw : Nat) (kx797 : Int32 → Int32 → Int32 → Int32 → Int32 → Int32 → Int32 → Int32 → Int32 → Int32 → Int32 → Int32 → tD_ → tS_ → tV_ → tF_ → tR_ → tI_ → tI_ → tY_ → tI_ → tZ_ → Option (Unit)) (kl797 : Int32 → Int32 → Int32 → Int32 → Int32 → Int32 → Int32 → Int32 → Int32 → Int32 → Int32 → Int32 → tD_ → tS_ → tV_ → tF_ → tR_ → tI_ → tI_ → tY_ → tI_ → tZ_ → Option (Unit)) (l2 : Int32) (l3 : Int32) (l7 : Int32) (l8 : Int32) (l9 : Int32) (l10 : Int32) (l11 : Int32) (l12 : Int32) (l13 : Int32) (l14 : Int32) (l16 : Int32) (l17 : Int32) (l18 : Int32) (l19 : Int32) (l20 : Int32) (D_ : tD_) (S_ : tS_) (V_ : tV_) (F_ : tF_) (R_ : tR_) (wv : tI_) (xv : tI_) (Y_ : tY_) (uv : tI_) (zv : tZ_) : Option (Unit) :=
match D_ with
| (dhasSaved, dkeptError, dmoved) =>
match V_ with
| (vkeys, vfirsts, vends, vvalues, vinferred, vgone, vmade) =>
match F_ with
| (fkeys, fdays, famounts, fversions, fcount) =>
match R_ with
| (rkeys, rdays, rvalues, rcount) =>
kl797 l2 l3 l7 l8 l9 l10 l11 l12 l13 l14 (l16 + 1) (l17 + 1) (dhasSaved, dkeptError, dmoved) () (vkeys, vfirsts, vends, vvalues, vinferred, vgone, vmade) (fkeys, fdays, famounts, fversions, fcount) (rkeys, rdays, rvalues, rcount) wv xv () uv zv
def f_law_B5_X894 (xs : Nat → Int32) (L K mw : Nat) (kx797 : Int32 → Int32 → Int32 → Int32 → Int32 → Int32 → Int32 → Int32 → Int32 → Int32 → Int32 → Int32 → tD_ → tS_ → tV_ → tF_ → tR_ → tI_ → tI_ → tY_ → tI_ → tZ_ → Option (Unit)) (kl797 : Int32 → Int32 → Int32 → Int32 → Int32 → Int32 → Int32 → Int32 → Int32 → Int32 → Int32 → Int32 → tD_ → tS_ → tV_ → tF_ → tR_ → tI_ → tI_ → tY_ → tI_ → tZ_ → Option (Unit)) (l2 : Int32) (l3 : Int32) (l7 : Int32) (l8 : Int32) (l9 : Int32) (l10 : Int32) (l11 : Int32) (l12 : Int32) (l13 : Int32) (l14 : Int32) (l16 : Int32) (l17 : Int32) (l18 : Int32) (l19 : Int32) (l20 : Int32) (D_ : tD_) (S_ : tS_) (V_ : tV_) (F_ : tF_) (R_ : tR_) (wv : tI_) (xv : tI_) (Y_ : tY_) (uv : tI_) (zv : tZ_) : Option (Unit) :=
match D_ with
| (dhasSaved, dkeptError, dmoved) =>
match V_ with
| (vkeys, vfirsts, vends, vvalues, vinferred, vgone, vmade) =>
match F_ with
| (fkeys, fdays, famounts, fversions, fcount) =>
match R_ with
| (rkeys, rdays, rvalues, rcount) =>
f_law_B5_J931 xs L K mw kx797 kl797 l2 l3 l7 l8 l9 l10 l11 l12 l13 l14 l16 l17 l18 l19 l20 (dhasSaved, dkeptError, dmoved) () (vkeys, vfirsts, vends, vvalues, vinferred, vgone, vmade) (fkeys, fdays, famounts, fversions, fcount) (rkeys, rdays, rvalues, rcount) wv xv () uv zv
def f_law_B5_S894 (xs : Nat → Int32) (L K mw : Nat) (kx894 : Int32 → Int32 → Int32 → Int32 → Int32 → Int32 → Int32 → Int32 → Int32 → Int32 → Int32 → Int32 → Int32 → Int32 → Int32 → tD_ → tS_ → tV_ → tF_ → tR_ → tI_ → tI_ → tY_ → tI_ → tZ_ → Option (Unit)) (kl894 : Int32 → Int32 → Int32 → Int32 → Int32 → Int32 → Int32 → Int32 → Int32 → Int32 → Int32 → Int32 → Int32 → Int32 → Int32 → tD_ → tS_ → tV_ → tF_ → tR_ → tI_ → tI_ → tY_ → tI_ → tZ_ → Option (Unit)) (l2 : Int32) (l3 : Int32) (l7 : Int32) (l8 : Int32) (l9 : Int32) (l10 : Int32) (l11 : Int32) (l12 : Int32) (l13 : Int32) (l14 : Int32) (l16 : Int32) (l17 : Int32) (l18 : Int32) (l19 : Int32) (l20 : Int32) (D_ : tD_) (S_ : tS_) (V_ : tV_) (F_ : tF_) (R_ : tR_) (wv : tI_) (xv : tI_) (Y_ : tY_) (uv : tI_) (zv : tZ_) : Option (Unit) :=
match D_ with
| (dhasSaved, dkeptError, dmoved) =>
match V_ with
| (vkeys, vfirsts, vends, vvalues, vinferred, vgone, vmade) =>
match F_ with
| (fkeys, fdays, famounts, fversions, fcount) =>
match R_ with
| (rkeys, rdays, rvalues, rcount) =>
if 1000 ≤ l20 then
kx894 l2 l3 l7 l8 l9 l10 l11 l12 l13 l14 l16 l17 l18 l19 l20 (dhasSaved, dkeptError, dmoved) () (vkeys, vfirsts, vends, vvalues, vinferred, vgone, vmade) (fkeys, fdays, famounts, fversions, fcount) (rkeys, rdays, rvalues, rcount) wv xv () uv zv
else
gd_ l12 K (
gd_ l20 1000 (
if (zv l12.toNatClampNeg l20.toNatClampNeg) = l19 then
gd_ l12 K (
gd_ l20 1000 (nm_ (rup zv l12.toNatClampNeg (upd (zv l12.toNatClampNeg) l20.toNatClampNeg l18)) (fun u48 =>
kl894 l2 l3 l7 l8 l9 l10 l11 l12 l13 l14 l16 l17 l18 l19 (l20 + 1) (dhasSaved, dkeptError, dmoved) () (vkeys, vfirsts, vends, vvalues, vinferred, vgone, vmade) (fkeys, fdays, famounts, fversions, fcount) (rkeys, rdays, rvalues, rcount) wv xv () uv u48)))
else
kx894 l2 l3 l7 l8 l9 l10 l11 l12 l13 l14 l16 l17 l18 l19 l20 (dhasSaved, dkeptError, dmoved) () (vkeys, vfirsts, vends, vvalues, vinferred, vgone, vmade) (fkeys, fdays, famounts, fversions, fcount) (rkeys, rdays, rvalues, rcount) wv xv () uv zv))
def f_law_B5_L894 (xs : Nat → Int32) (L K mw : Nat) (kx894 : Int32 → Int32 → Int32 → Int32 → Int32 → Int32 → Int32 → Int32 → Int32 → Int32 → Int32 → Int32 → Int32 → Int32 → Int32 → tD_ → tS_ → tV_ → tF_ → tR_ → tI_ → tI_ → tY_ → tI_ → tZ_ → Option (Unit)) : Nat → Int32 → Int32 → Int32 → Int32 → Int32 → Int32 → Int32 → Int32 → Int32 → Int32 → Int32 → Int32 → Int32 → Int32 → Int32 → tD_ → tS_ → tV_ → tF_ → tR_ → tI_ → tI_ → tY_ → tI_ → tZ_ → Option (Unit)
  | 0 => fun _ _ _ _ _ _ _ _ _ _ _ _ _ _ _ _ _ _ _ _ _ _ _ _ _ => none
  | n + 1 => fun l2 l3 l7 l8 l9 l10 l11 l12 l13 l14 l16 l17 l18 l19 l20 D_ S_ V_ F_ R_ wv xv Y_ uv zv => f_law_B5_S894 xs L K mw kx894 (f_law_B5_L894 xs L K mw kx894 n) l2 l3 l7 l8 l9 l10 l11 l12 l13 l14 l16 l17 l18 l19 l20 D_ S_ V_ F_ R_ wv xv Y_ uv zv
def f_law_B5_X797 (xs : Nat → Int32) (L K mw : Nat) (k953 : Int32 → Int32 → Int32 → Int32 → Int32 → Int32 → tD_ → tS_ → tV_ → tF_ → tR_ → tI_ → tI_ → tY_ → tI_ → tZ_ → Option Unit) (l2 : Int32) (l3 : Int32) (l7 : Int32) (l8 : Int32) (l9 : Int32) (l10 : Int32) (l11 : Int32) (l12 : Int32) (l13 : Int32) (l14 : Int32) (l16 : Int32) (l17 : Int32) (D_ : tD_) (S_ : tS_) (V_ : tV_) (F_ : tF_) (R_ : tR_) (wv : tI_) (xv : tI_) (Y_ : tY_) (uv : tI_) (zv : tZ_) : Option (Unit) :=
match D_ with
| (dhasSaved, dkeptError, dmoved) =>
match V_ with
| (vkeys, vfirsts, vends, vvalues, vinferred, vgone, vmade) =>
match F_ with
| (fkeys, fdays, famounts, fversions, fcount) =>
match R_ with
| (rkeys, rdays, rvalues, rcount) =>
bd_ (f_X5_join l12 (dhasSaved, dkeptError, dmoved) () (vkeys, vfirsts, vends, vvalues, vinferred, vgone, vmade) (fkeys, fdays, famounts, fversions, fcount) (rkeys, rdays, rvalues, rcount)) (fun (x1, (dh3, dk4, dm5), (vk6, vf7, ve8, vv9, vi10, vg11, vm12), (fk13, fd14, fa15, fv16, fc17)) =>
match x1 with
| Except.error E24 => none
| Except.ok r2 =>
if r2 = l16 then
k953 l2 l3 l7 l8 l9 l10 (dh3, dk4, dm5) () (vk6, vf7, ve8, vv9, vi10, vg11, vm12) (fk13, fd14, fa15, fv16, fc17) (rkeys, rdays, rvalues, rcount) wv xv () uv zv
else
none)
def f_law_B5_S797 (xs : Nat → Int32) (L K mw : Nat) (kx797 : Int32 → Int32 → Int32 → Int32 → Int32 → Int32 → Int32 → Int32 → Int32 → Int32 → Int32 → Int32 → tD_ → tS_ → tV_ → tF_ → tR_ → tI_ → tI_ → tY_ → tI_ → tZ_ → Option (Unit)) (kl797 : Int32 → Int32 → Int32 → Int32 → Int32 → Int32 → Int32 → Int32 → Int32 → Int32 → Int32 → Int32 → tD_ → tS_ → tV_ → tF_ → tR_ → tI_ → tI_ → tY_ → tI_ → tZ_ → Option (Unit)) (l2 : Int32) (l3 : Int32) (l7 : Int32) (l8 : Int32) (l9 : Int32) (l10 : Int32) (l11 : Int32) (l12 : Int32) (l13 : Int32) (l14 : Int32) (l16 : Int32) (l17 : Int32) (D_ : tD_) (S_ : tS_) (V_ : tV_) (F_ : tF_) (R_ : tR_) (wv : tI_) (xv : tI_) (Y_ : tY_) (uv : tI_) (zv : tZ_) : Option (Unit) :=
match D_ with
| (dhasSaved, dkeptError, dmoved) =>
match V_ with
| (vkeys, vfirsts, vends, vvalues, vinferred, vgone, vmade) =>
match F_ with
| (fkeys, fdays, famounts, fversions, fcount) =>
match R_ with
| (rkeys, rdays, rvalues, rcount) =>
if 1000 ≤ l17 then
kx797 l2 l3 l7 l8 l9 l10 l11 l12 l13 l14 l16 l17 (dhasSaved, dkeptError, dmoved) () (vkeys, vfirsts, vends, vvalues, vinferred, vgone, vmade) (fkeys, fdays, famounts, fversions, fcount) (rkeys, rdays, rvalues, rcount) wv xv () uv zv
else
gd_ l12 K (
gd_ (l17 - 1) 1000 (
gd_ l12 K (
gd_ l17 1000 (
if (zv l12.toNatClampNeg (l17 - 1).toNatClampNeg) < 0 then
kl797 l2 l3 l7 l8 l9 l10 l11 l12 l13 l14 l16 (l17 + 1) (dhasSaved, dkeptError, dmoved) () (vkeys, vfirsts, vends, vvalues, vinferred, vgone, vmade) (fkeys, fdays, famounts, fversions, fcount) (rkeys, rdays, rvalues, rcount) wv xv () uv zv
else
if (zv l12.toNatClampNeg l17.toNatClampNeg) < 0 then
kl797 l2 l3 l7 l8 l9 l10 l11 l12 l13 l14 l16 (l17 + 1) (dhasSaved, dkeptError, dmoved) () (vkeys, vfirsts, vends, vvalues, vinferred, vgone, vmade) (fkeys, fdays, famounts, fversions, fcount) (rkeys, rdays, rvalues, rcount) wv xv () uv zv
else
if (zv l12.toNatClampNeg (l17 - 1).toNatClampNeg) = (zv l12.toNatClampNeg l17.toNatClampNeg) then
kl797 l2 l3 l7 l8 l9 l10 l11 l12 l13 l14 l16 (l17 + 1) (dhasSaved, dkeptError, dmoved) () (vkeys, vfirsts, vends, vvalues, vinferred, vgone, vmade) (fkeys, fdays, famounts, fversions, fcount) (rkeys, rdays, rvalues, rcount) wv xv () uv zv
else
gd_ ((3 * (zv l12.toNatClampNeg (l17 - 1).toNatClampNeg)) + 1) 180 (
if (wv ((3 * (zv l12.toNatClampNeg (l17 - 1).toNatClampNeg)) + 1).toNatClampNeg) = 1 then
kl797 l2 l3 l7 l8 l9 l10 l11 l12 l13 l14 l16 (l17 + 1) (dhasSaved, dkeptError, dmoved) () (vkeys, vfirsts, vends, vvalues, vinferred, vgone, vmade) (fkeys, fdays, famounts, fversions, fcount) (rkeys, rdays, rvalues, rcount) wv xv () uv zv
else
gd_ ((3 * (zv l12.toNatClampNeg l17.toNatClampNeg)) + 1) 180 (
if (wv ((3 * (zv l12.toNatClampNeg l17.toNatClampNeg)) + 1).toNatClampNeg) = 1 then
kl797 l2 l3 l7 l8 l9 l10 l11 l12 l13 l14 l16 (l17 + 1) (dhasSaved, dkeptError, dmoved) () (vkeys, vfirsts, vends, vvalues, vinferred, vgone, vmade) (fkeys, fdays, famounts, fversions, fcount) (rkeys, rdays, rvalues, rcount) wv xv () uv zv
else
gd_ (3 * (zv l12.toNatClampNeg (l17 - 1).toNatClampNeg)) 180 (
gd_ (3 * (zv l12.toNatClampNeg l17.toNatClampNeg)) 180 (
if (wv (3 * (zv l12.toNatClampNeg (l17 - 1).toNatClampNeg)).toNatClampNeg) = (wv (3 * (zv l12.toNatClampNeg l17.toNatClampNeg)).toNatClampNeg) then
f_law_B5_L894 xs L K mw (f_law_B5_X894 xs L K mw kx797 kl797) fu_ l2 l3 l7 l8 l9 l10 l11 l12 l13 l14 l16 l17 (zv l12.toNatClampNeg (l17 - 1).toNatClampNeg) (zv l12.toNatClampNeg l17.toNatClampNeg) l17 (dhasSaved, dkeptError, dmoved) () (vkeys, vfirsts, vends, vvalues, vinferred, vgone, vmade) (fkeys, fdays, famounts, fversions, fcount) (rkeys, rdays, rvalues, rcount) wv xv () uv zv
else
kl797 l2 l3 l7 l8 l9 l10 l11 l12 l13 l14 l16 (l17 + 1) (dhasSaved, dkeptError, dmoved) () (vkeys, vfirsts, vends, vvalues, vinferred, vgone, vmade) (fkeys, fdays, famounts, fversions, fcount) (rkeys, rdays, rvalues, rcount) wv xv () uv zv))))))))
def f_law_B5_L797 (xs : Nat → Int32) (L K mw : Nat) (kx797 : Int32 → Int32 → Int32 → Int32 → Int32 → Int32 → Int32 → Int32 → Int32 → Int32 → Int32 → Int32 → tD_ → tS_ → tV_ → tF_ → tR_ → tI_ → tI_ → tY_ → tI_ → tZ_ → Option (Unit)) : Nat → Int32 → Int32 → Int32 → Int32 → Int32 → Int32 → Int32 → Int32 → Int32 → Int32 → Int32 → Int32 → tD_ → tS_ → tV_ → tF_ → tR_ → tI_ → tI_ → tY_ → tI_ → tZ_ → Option (Unit)
  | 0 => fun _ _ _ _ _ _ _ _ _ _ _ _ _ _ _ _ _ _ _ _ _ _ => none
  | n + 1 => fun l2 l3 l7 l8 l9 l10 l11 l12 l13 l14 l16 l17 D_ S_ V_ F_ R_ wv xv Y_ uv zv => f_law_B5_S797 xs L K mw kx797 (f_law_B5_L797 xs L K mw kx797 n) l2 l3 l7 l8 l9 l10 l11 l12 l13 l14 l16 l17 D_ S_ V_ F_ R_ wv xv Y_ uv zv
def f_law_B5 (xs : Nat → Int32) (L K mw : Nat) (k953 : Int32 → Int32 → Int32 → Int32 → Int32 → Int32 → tD_ → tS_ → tV_ → tF_ → tR_ → tI_ → tI_ → tY_ → tI_ → tZ_ → Option Unit) (l2 : Int32) (l3 : Int32) (l7 : Int32) (l8 : Int32) (l9 : Int32) (l10 : Int32) (l11 : Int32) (l12 : Int32) (l13 : Int32) (l14 : Int32) (D_ : tD_) (S_ : tS_) (V_ : tV_) (F_ : tF_) (R_ : tR_) (wv : tI_) (xv : tI_) (Y_ : tY_) (uv : tI_) (zv : tZ_) : Option Unit :=
match D_ with
| (dhasSaved, dkeptError, dmoved) =>
match V_ with
| (vkeys, vfirsts, vends, vvalues, vinferred, vgone, vmade) =>
match F_ with
| (fkeys, fdays, famounts, fversions, fcount) =>
match R_ with
| (rkeys, rdays, rvalues, rcount) =>
f_law_B5_L797 xs L K mw (f_law_B5_X797 xs L K mw k953) fu_ l2 l3 l7 l8 l9 l10 l11 l12 l13 l14 (0 : Int32) (1 : Int32) (dhasSaved, dkeptError, dmoved) () (vkeys, vfirsts, vends, vvalues, vinferred, vgone, vmade) (fkeys, fdays, famounts, fversions, fcount) (rkeys, rdays, rvalues, rcount) wv xv () uv zv
def f_law_C_J1002 (xs : Nat → Int32) (L K mw : Nat) (kx959 : Int32 → Int32 → Int32 → Int32 → Int32 → Int32 → Int32 → Int32 → tD_ → tS_ → tV_ → tF_ → tR_ → tI_ → tI_ → tY_ → tI_ → tZ_ → Option (Unit)) (kl959 : Int32 → Int32 → Int32 → Int32 → Int32 → Int32 → Int32 → Int32 → tD_ → tS_ → tV_ → tF_ → tR_ → tI_ → tI_ → tY_ → tI_ → tZ_ → Option (Unit)) (l2 : Int32) (l3 : Int32) (l7 : Int32) (l8 : Int32) (l9 : Int32) (l10 : Int32) (l16 : Int32) (l17 : Int32) (k0_ : Int32) (k1_ : Int32) (D_ : tD_) (S_ : tS_) (V_ : tV_) (F_ : tF_) (R_ : tR_) (wv : tI_) (xv : tI_) (Y_ : tY_) (uv : tI_) (zv : tZ_) : Option (Unit) :=
match D_ with
| (dhasSaved, dkeptError, dmoved) =>
match V_ with
| (vkeys, vfirsts, vends, vvalues, vinferred, vgone, vmade) =>
match F_ with
| (fkeys, fdays, famounts, fversions, fcount) =>
match R_ with
| (rkeys, rdays, rvalues, rcount) =>
kl959 l2 l3 l7 l8 l9 l10 (k0_ + k1_) (l17 + 1) (dhasSaved, dkeptError, dmoved) () (vkeys, vfirsts, vends, vvalues, vinferred, vgone, vmade) (fkeys, fdays, famounts, fversions, fcount) (rkeys, rdays, rvalues, rcount) wv xv () uv zv
def f_law_C_X959 (xs : Nat → Int32) (L K mw : Nat) (k1022 : Int32 → Int32 → Int32 → Int32 → Int32 → Int32 → tD_ → tS_ → tV_ → tF_ → tR_ → tI_ → tI_ → tY_ → tZ_ → Option Unit) (l2 : Int32) (l3 : Int32) (l7 : Int32) (l8 : Int32) (l9 : Int32) (l10 : Int32) (l16 : Int32) (l17 : Int32) (D_ : tD_) (S_ : tS_) (V_ : tV_) (F_ : tF_) (R_ : tR_) (wv : tI_) (xv : tI_) (Y_ : tY_) (uv : tI_) (zv : tZ_) : Option (Unit) :=
match D_ with
| (dhasSaved, dkeptError, dmoved) =>
match V_ with
| (vkeys, vfirsts, vends, vvalues, vinferred, vgone, vmade) =>
match F_ with
| (fkeys, fdays, famounts, fversions, fcount) =>
match R_ with
| (rkeys, rdays, rvalues, rcount) =>
bd_ (f_X5_pointedAnew (dhasSaved, dkeptError, dmoved)) (fun r1 =>
if r1 = l16 then
k1022 l2 l3 l7 l8 l9 l10 (dhasSaved, dkeptError, dmoved) () (vkeys, vfirsts, vends, vvalues, vinferred, vgone, vmade) (fkeys, fdays, famounts, fversions, fcount) (rkeys, rdays, rvalues, rcount) wv xv () zv
else
none)
def f_law_C_S959 (xs : Nat → Int32) (L K mw : Nat) (kx959 : Int32 → Int32 → Int32 → Int32 → Int32 → Int32 → Int32 → Int32 → tD_ → tS_ → tV_ → tF_ → tR_ → tI_ → tI_ → tY_ → tI_ → tZ_ → Option (Unit)) (kl959 : Int32 → Int32 → Int32 → Int32 → Int32 → Int32 → Int32 → Int32 → tD_ → tS_ → tV_ → tF_ → tR_ → tI_ → tI_ → tY_ → tI_ → tZ_ → Option (Unit)) (l2 : Int32) (l3 : Int32) (l7 : Int32) (l8 : Int32) (l9 : Int32) (l10 : Int32) (l16 : Int32) (l17 : Int32) (D_ : tD_) (S_ : tS_) (V_ : tV_) (F_ : tF_) (R_ : tR_) (wv : tI_) (xv : tI_) (Y_ : tY_) (uv : tI_) (zv : tZ_) : Option (Unit) :=
match D_ with
| (dhasSaved, dkeptError, dmoved) =>
match V_ with
| (vkeys, vfirsts, vends, vvalues, vinferred, vgone, vmade) =>
match F_ with
| (fkeys, fdays, famounts, fversions, fcount) =>
match R_ with
| (rkeys, rdays, rvalues, rcount) =>
if (Int32.ofNat mw) ≤ l17 then
kx959 l2 l3 l7 l8 l9 l10 l16 l17 (dhasSaved, dkeptError, dmoved) () (vkeys, vfirsts, vends, vvalues, vinferred, vgone, vmade) (fkeys, fdays, famounts, fversions, fcount) (rkeys, rdays, rvalues, rcount) wv xv () uv zv
else
gd_ l17 mw (
gd_ (3 * l17) 180 (
gd_ (xv (3 * l17).toNatClampNeg) K (
gd_ ((3 * l17) + 1) 180 (
gd_ (xv ((3 * l17) + 1).toNatClampNeg) 1000 (
if (uv l17.toNatClampNeg) = (zv (xv (3 * l17).toNatClampNeg).toNatClampNeg (xv ((3 * l17) + 1).toNatClampNeg).toNatClampNeg) then
f_law_C_J1002 xs L K mw kx959 kl959 l2 l3 l7 l8 l9 l10 l16 l17 l16 (0 : Int32) (dhasSaved, dkeptError, dmoved) () (vkeys, vfirsts, vends, vvalues, vinferred, vgone, vmade) (fkeys, fdays, famounts, fversions, fcount) (rkeys, rdays, rvalues, rcount) wv xv () uv zv
else
f_law_C_J1002 xs L K mw kx959 kl959 l2 l3 l7 l8 l9 l10 l16 l17 l16 (1 : Int32) (dhasSaved, dkeptError, dmoved) () (vkeys, vfirsts, vends, vvalues, vinferred, vgone, vmade) (fkeys, fdays, famounts, fversions, fcount) (rkeys, rdays, rvalues, rcount) wv xv () uv zv)))))
def f_law_C_L959 (xs : Nat → Int32) (L K mw : Nat) (kx959 : Int32 → Int32 → Int32 → Int32 → Int32 → Int32 → Int32 → Int32 → tD_ → tS_ → tV_ → tF_ → tR_ → tI_ → tI_ → tY_ → tI_ → tZ_ → Option (Unit)) : Nat → Int32 → Int32 → Int32 → Int32 → Int32 → Int32 → Int32 → Int32 → tD_ → tS_ → tV_ → tF_ → tR_ → tI_ → tI_ → tY_ → tI_ → tZ_ → Option (Unit)
  | 0 => fun _ _ _ _ _ _ _ _ _ _ _ _ _ _ _ _ _ _ => none
  | n + 1 => fun l2 l3 l7 l8 l9 l10 l16 l17 D_ S_ V_ F_ R_ wv xv Y_ uv zv => f_law_C_S959 xs L K mw kx959 (f_law_C_L959 xs L K mw kx959 n) l2 l3 l7 l8 l9 l10 l16 l17 D_ S_ V_ F_ R_ wv xv Y_ uv zv
def f_law_C (xs : Nat → Int32) (L K mw : Nat) (k1022 : Int32 → Int32 → Int32 → Int32 → Int32 → Int32 → tD_ → tS_ → tV_ → tF_ → tR_ → tI_ → tI_ → tY_ → tZ_ → Option Unit) (l2 : Int32) (l3 : Int32) (l7 : Int32) (l8 : Int32) (l9 : Int32) (l10 : Int32) (D_ : tD_) (S_ : tS_) (V_ : tV_) (F_ : tF_) (R_ : tR_) (wv : tI_) (xv : tI_) (Y_ : tY_) (uv : tI_) (zv : tZ_) : Option Unit :=
match D_ with
| (dhasSaved, dkeptError, dmoved) =>
match V_ with
| (vkeys, vfirsts, vends, vvalues, vinferred, vgone, vmade) =>
match F_ with
| (fkeys, fdays, famounts, fversions, fcount) =>
match R_ with
| (rkeys, rdays, rvalues, rcount) =>
f_law_C_L959 xs L K mw (f_law_C_X959 xs L K mw k1022) fu_ l2 l3 l7 l8 l9 l10 (0 : Int32) (0 : Int32) (dhasSaved, dkeptError, dmoved) () (vkeys, vfirsts, vends, vvalues, vinferred, vgone, vmade) (fkeys, fdays, famounts, fversions, fcount) (rkeys, rdays, rvalues, rcount) wv xv () uv zv
def f_law_E1_X1034 (xs : Nat → Int32) (L K : Nat) (k1075 : Int32 → Int32 → Int32 → Int32 → tD_ → tS_ → tV_ → tF_ → tR_ → tI_ → tI_ → tY_ → tZ_ → Option Unit) (l2 : Int32) (l3 : Int32) (l7 : Int32) (l8 : Int32) (l9 : Int32) (l10 : Int32) (l11 : Int32) (D_ : tD_) (S_ : tS_) (V_ : tV_) (F_ : tF_) (R_ : tR_) (wv : tI_) (xv : tI_) (Y_ : tY_) (zv : tZ_) : Option (Unit) :=
match D_ with
| (dhasSaved, dkeptError, dmoved) =>
match V_ with
| (vkeys, vfirsts, vends, vvalues, vinferred, vgone, vmade) =>
match F_ with
| (fkeys, fdays, famounts, fversions, fcount) =>
match R_ with
| (rkeys, rdays, rvalues, rcount) =>
k1075 l2 l7 l8 l10 (dhasSaved, dkeptError, dmoved) () (vkeys, vfirsts, vends, vvalues, vinferred, vgone, vmade) (fkeys, fdays, famounts, fversions, fcount) (rkeys, rdays, rvalues, rcount) wv xv () zv
def f_law_E1_S1034 (xs : Nat → Int32) (L K : Nat) (kx1034 : Int32 → Int32 → Int32 → Int32 → Int32 → Int32 → Int32 → tD_ → tS_ → tV_ → tF_ → tR_ → tI_ → tI_ → tY_ → tZ_ → Option (Unit)) (kl1034 : Int32 → Int32 → Int32 → Int32 → Int32 → Int32 → Int32 → tD_ → tS_ → tV_ → tF_ → tR_ → tI_ → tI_ → tY_ → tZ_ → Option (Unit)) (l2 : Int32) (l3 : Int32) (l7 : Int32) (l8 : Int32) (l9 : Int32) (l10 : Int32) (l11 : Int32) (D_ : tD_) (S_ : tS_) (V_ : tV_) (F_ : tF_) (R_ : tR_) (wv : tI_) (xv : tI_) (Y_ : tY_) (zv : tZ_) : Option (Unit) :=
match D_ with
| (dhasSaved, dkeptError, dmoved) =>
match V_ with
| (vkeys, vfirsts, vends, vvalues, vinferred, vgone, vmade) =>
match F_ with
| (fkeys, fdays, famounts, fversions, fcount) =>
match R_ with
| (rkeys, rdays, rvalues, rcount) =>
if l2 ≤ l11 then
kx1034 l2 l3 l7 l8 l9 l10 l11 (dhasSaved, dkeptError, dmoved) () (vkeys, vfirsts, vends, vvalues, vinferred, vgone, vmade) (fkeys, fdays, famounts, fversions, fcount) (rkeys, rdays, rvalues, rcount) wv xv () zv
else
gd_ l11 K (
bd_ (f_L_isKey l11 (dhasSaved, dkeptError, dmoved) () (vkeys, vfirsts, vends, vvalues, vinferred, vgone, vmade) (fkeys, fdays, famounts, fversions, fcount) (rkeys, rdays, rvalues, rcount) (zv l11.toNatClampNeg) wv) (fun r7 =>
if 0 ≤ r7 then
kl1034 l2 l3 l7 l8 l9 (l10 + r7) (l11 + 1) (dhasSaved, dkeptError, dmoved) () (vkeys, vfirsts, vends, vvalues, vinferred, vgone, vmade) (fkeys, fdays, famounts, fversions, fcount) (rkeys, rdays, rvalues, rcount) wv xv () zv
else
none))
def f_law_E1_L1034 (xs : Nat → Int32) (L K : Nat) (kx1034 : Int32 → Int32 → Int32 → Int32 → Int32 → Int32 → Int32 → tD_ → tS_ → tV_ → tF_ → tR_ → tI_ → tI_ → tY_ → tZ_ → Option (Unit)) : Nat → Int32 → Int32 → Int32 → Int32 → Int32 → Int32 → Int32 → tD_ → tS_ → tV_ → tF_ → tR_ → tI_ → tI_ → tY_ → tZ_ → Option (Unit)
  | 0 => fun _ _ _ _ _ _ _ _ _ _ _ _ _ _ _ _ => none
  | n + 1 => fun l2 l3 l7 l8 l9 l10 l11 D_ S_ V_ F_ R_ wv xv Y_ zv => f_law_E1_S1034 xs L K kx1034 (f_law_E1_L1034 xs L K kx1034 n) l2 l3 l7 l8 l9 l10 l11 D_ S_ V_ F_ R_ wv xv Y_ zv
def f_law_E1 (xs : Nat → Int32) (L K : Nat) (k1075 : Int32 → Int32 → Int32 → Int32 → tD_ → tS_ → tV_ → tF_ → tR_ → tI_ → tI_ → tY_ → tZ_ → Option Unit) (l2 : Int32) (l3 : Int32) (l7 : Int32) (l8 : Int32) (l9 : Int32) (l10 : Int32) (D_ : tD_) (S_ : tS_) (V_ : tV_) (F_ : tF_) (R_ : tR_) (wv : tI_) (xv : tI_) (Y_ : tY_) (zv : tZ_) : Option Unit :=
match D_ with
| (dhasSaved, dkeptError, dmoved) =>
match V_ with
| (vkeys, vfirsts, vends, vvalues, vinferred, vgone, vmade) =>
match F_ with
| (fkeys, fdays, famounts, fversions, fcount) =>
match R_ with
| (rkeys, rdays, rvalues, rcount) =>
f_law_E1_L1034 xs L K (f_law_E1_X1034 xs L K k1075) fu_ l2 l3 l7 l8 l9 (0 : Int32) (0 : Int32) (dhasSaved, dkeptError, dmoved) () (vkeys, vfirsts, vends, vvalues, vinferred, vgone, vmade) (fkeys, fdays, famounts, fversions, fcount) (rkeys, rdays, rvalues, rcount) wv xv () zv
def f_law_E2_X1090 (xs : Nat → Int32) (L K : Nat) (k1238 : Int32 → Int32 → Int32 → Int32 → tD_ → tS_ → tV_ → tF_ → tR_ → tI_ → tI_ → tY_ → tJ_ → tI_ → tZ_ → Option Unit) (l2 : Int32) (l7 : Int32) (l8 : Int32) (l10 : Int32) (l13 : Int32) (D_ : tD_) (S_ : tS_) (V_ : tV_) (F_ : tF_) (R_ : tR_) (wv : tI_) (xv : tI_) (Y_ : tY_) (jv : tJ_) (nv : tI_) (zv : tZ_) : Option (Unit) :=
match D_ with
| (dhasSaved, dkeptError, dmoved) =>
match V_ with
| (vkeys, vfirsts, vends, vvalues, vinferred, vgone, vmade) =>
match F_ with
| (fkeys, fdays, famounts, fversions, fcount) =>
match R_ with
| (rkeys, rdays, rvalues, rcount) =>
k1238  l2 l7 l8 l10 (dhasSaved, dkeptError, dmoved) () (vkeys, vfirsts, vends, vvalues, vinferred, vgone, vmade) (fkeys, fdays, famounts, fversions, fcount) (rkeys, rdays, rvalues, rcount) wv xv () jv nv zv
def f_law_E2_S1090 (xs : Nat → Int32) (L K : Nat) (kx1090 : Int32 → Int32 → Int32 → Int32 → Int32 → tD_ → tS_ → tV_ → tF_ → tR_ → tI_ → tI_ → tY_ → tJ_ → tI_ → tZ_ → Option (Unit)) (kl1090 : Int32 → Int32 → Int32 → Int32 → Int32 → tD_ → tS_ → tV_ → tF_ → tR_ → tI_ → tI_ → tY_ → tJ_ → tI_ → tZ_ → Option (Unit)) (l2 : Int32) (l7 : Int32) (l8 : Int32) (l10 : Int32) (l13 : Int32) (D_ : tD_) (S_ : tS_) (V_ : tV_) (F_ : tF_) (R_ : tR_) (wv : tI_) (xv : tI_) (Y_ : tY_) (jv : tJ_) (nv : tI_) (zv : tZ_) : Option (Unit) :=
match D_ with
| (dhasSaved, dkeptError, dmoved) =>
match V_ with
| (vkeys, vfirsts, vends, vvalues, vinferred, vgone, vmade) =>
match F_ with
| (fkeys, fdays, famounts, fversions, fcount) =>
match R_ with
| (rkeys, rdays, rvalues, rcount) =>
if l8 ≤ l13 then
kx1090 l2 l7 l8 l10 l13 (dhasSaved, dkeptError, dmoved) () (vkeys, vfirsts, vends, vvalues, vinferred, vgone, vmade) (fkeys, fdays, famounts, fversions, fcount) (rkeys, rdays, rvalues, rcount) wv xv () jv nv zv
else
gd_ (3 * l13) 180 (
gd_ (xv (3 * l13).toNatClampNeg) K (
gd_ ((3 * l13) + 1) 180 (
gd_ (xv ((3 * l13) + 1).toNatClampNeg) 1000 (
gd_ (zv (xv (3 * l13).toNatClampNeg).toNatClampNeg (xv ((3 * l13) + 1).toNatClampNeg).toNatClampNeg) 60 (
gd_ ((3 * l13) + 2) 180 (
gd_ (zv (xv (3 * l13).toNatClampNeg).toNatClampNeg (xv ((3 * l13) + 1).toNatClampNeg).toNatClampNeg) 60 (nm_ (vp_updL jv ((zv (xv (3 * l13).toNatClampNeg).toNatClampNeg (xv ((3 * l13) + 1).toNatClampNeg).toNatClampNeg).toNatClampNeg) ((jv (zv (xv (3 * l13).toNatClampNeg).toNatClampNeg (xv ((3 * l13) + 1).toNatClampNeg).toNatClampNeg).toNatClampNeg) + ((xv ((3 * l13) + 2).toNatClampNeg).toInt64))) (fun u12 =>
gd_ (zv (xv (3 * l13).toNatClampNeg).toNatClampNeg (xv ((3 * l13) + 1).toNatClampNeg).toNatClampNeg) 60 (
gd_ (zv (xv (3 * l13).toNatClampNeg).toNatClampNeg (xv ((3 * l13) + 1).toNatClampNeg).toNatClampNeg) 60 (nm_ (upd nv ((zv (xv (3 * l13).toNatClampNeg).toNatClampNeg (xv ((3 * l13) + 1).toNatClampNeg).toNatClampNeg).toNatClampNeg) ((nv (zv (xv (3 * l13).toNatClampNeg).toNatClampNeg (xv ((3 * l13) + 1).toNatClampNeg).toNatClampNeg).toNatClampNeg) + 1)) (fun u17 =>
bd_ (f_X5_fact l13 (0 : Int32) (dhasSaved, dkeptError, dmoved) () (vkeys, vfirsts, vends, vvalues, vinferred, vgone, vmade) (fkeys, fdays, famounts, fversions, fcount) (rkeys, rdays, rvalues, rcount)) (fun x19 =>
match x19 with
| Except.error E27 => none
| Except.ok r20 =>
gd_ (3 * l13) 180 (
if r20 = (xv (3 * l13).toNatClampNeg) then
bd_ (f_X5_fact l13 (1 : Int32) (dhasSaved, dkeptError, dmoved) () (vkeys, vfirsts, vends, vvalues, vinferred, vgone, vmade) (fkeys, fdays, famounts, fversions, fcount) (rkeys, rdays, rvalues, rcount)) (fun x30 =>
match x30 with
| Except.error E38 => none
| Except.ok r31 =>
gd_ ((3 * l13) + 1) 180 (
if r31 = (xv ((3 * l13) + 1).toNatClampNeg) then
bd_ (f_X5_fact l13 (2 : Int32) (dhasSaved, dkeptError, dmoved) () (vkeys, vfirsts, vends, vvalues, vinferred, vgone, vmade) (fkeys, fdays, famounts, fversions, fcount) (rkeys, rdays, rvalues, rcount)) (fun x41 =>
match x41 with
| Except.error E49 => none
| Except.ok r42 =>
gd_ ((3 * l13) + 2) 180 (
if r42 = (xv ((3 * l13) + 2).toNatClampNeg) then
bd_ (f_X5_fact l13 (3 : Int32) (dhasSaved, dkeptError, dmoved) () (vkeys, vfirsts, vends, vvalues, vinferred, vgone, vmade) (fkeys, fdays, famounts, fversions, fcount) (rkeys, rdays, rvalues, rcount)) (fun x52 =>
match x52 with
| Except.error E60 => none
| Except.ok r53 =>
if r53 = (zv (xv (3 * l13).toNatClampNeg).toNatClampNeg (xv ((3 * l13) + 1).toNatClampNeg).toNatClampNeg) then
bd_ (f_X5_fact l13 (4 : Int32) (dhasSaved, dkeptError, dmoved) () (vkeys, vfirsts, vends, vvalues, vinferred, vgone, vmade) (fkeys, fdays, famounts, fversions, fcount) (rkeys, rdays, rvalues, rcount)) (fun x62 =>
match x62 with
| Except.error E70 => none
| Except.ok r63 =>
gd_ (3 * (zv (xv (3 * l13).toNatClampNeg).toNatClampNeg (xv ((3 * l13) + 1).toNatClampNeg).toNatClampNeg)) 180 (
if r63 = (wv (3 * (zv (xv (3 * l13).toNatClampNeg).toNatClampNeg (xv ((3 * l13) + 1).toNatClampNeg).toNatClampNeg)).toNatClampNeg) then
kl1090 l2 l7 l8 l10 (l13 + 1) (dhasSaved, dkeptError, dmoved) () (vkeys, vfirsts, vends, vvalues, vinferred, vgone, vmade) (fkeys, fdays, famounts, fversions, fcount) (rkeys, rdays, rvalues, rcount) wv xv () u12 u17 zv
else
none))
else
none)
else
none))
else
none))
else
none)))))))))))))
def f_law_E2_L1090 (xs : Nat → Int32) (L K : Nat) (kx1090 : Int32 → Int32 → Int32 → Int32 → Int32 → tD_ → tS_ → tV_ → tF_ → tR_ → tI_ → tI_ → tY_ → tJ_ → tI_ → tZ_ → Option (Unit)) : Nat → Int32 → Int32 → Int32 → Int32 → Int32 → tD_ → tS_ → tV_ → tF_ → tR_ → tI_ → tI_ → tY_ → tJ_ → tI_ → tZ_ → Option (Unit)
  | 0 => fun _ _ _ _ _ _ _ _ _ _ _ _ _ _ _ _ => none
  | n + 1 => fun l2 l7 l8 l10 l13 D_ S_ V_ F_ R_ wv xv Y_ jv nv zv => f_law_E2_S1090 xs L K kx1090 (f_law_E2_L1090 xs L K kx1090 n) l2 l7 l8 l10 l13 D_ S_ V_ F_ R_ wv xv Y_ jv nv zv
def f_law_E2 (xs : Nat → Int32) (L K : Nat) (k1238 : Int32 → Int32 → Int32 → Int32 → tD_ → tS_ → tV_ → tF_ → tR_ → tI_ → tI_ → tY_ → tJ_ → tI_ → tZ_ → Option Unit) (l2 : Int32) (l7 : Int32) (l8 : Int32) (l10 : Int32) (D_ : tD_) (S_ : tS_) (V_ : tV_) (F_ : tF_) (R_ : tR_) (wv : tI_) (xv : tI_) (Y_ : tY_) (zv : tZ_) : Option Unit :=
match D_ with
| (dhasSaved, dkeptError, dmoved) =>
match V_ with
| (vkeys, vfirsts, vends, vvalues, vinferred, vgone, vmade) =>
match F_ with
| (fkeys, fdays, famounts, fversions, fcount) =>
match R_ with
| (rkeys, rdays, rvalues, rcount) =>
f_law_E2_L1090 xs L K (f_law_E2_X1090 xs L K k1238) fu_ l2 l7 l8 l10 (0 : Int32) (dhasSaved, dkeptError, dmoved) () (vkeys, vfirsts, vends, vvalues, vinferred, vgone, vmade) (fkeys, fdays, famounts, fversions, fcount) (rkeys, rdays, rvalues, rcount) wv xv () (fun _ => 0) (fun _ => 0) zv
def f_law_E3_X1250 (xs : Nat → Int32) (L K : Nat) (kx1241 : Int32 → Int32 → Int32 → Int32 → Int32 → tD_ → tS_ → tV_ → tF_ → tR_ → tI_ → tI_ → tY_ → tJ_ → tI_ → tZ_ → Option (Unit)) (kl1241 : Int32 → Int32 → Int32 → Int32 → Int32 → tD_ → tS_ → tV_ → tF_ → tR_ → tI_ → tI_ → tY_ → tJ_ → tI_ → tZ_ → Option (Unit)) (l2 : Int32) (l7 : Int32) (l8 : Int32) (l10 : Int32) (l13 : Int32) (l14 : Int32) (D_ : tD_) (S_ : tS_) (V_ : tV_) (F_ : tF_) (R_ : tR_) (wv : tI_) (xv : tI_) (Y_ : tY_) (jv : tJ_) (nv : tI_) (zv : tZ_) : Option (Unit) :=
match D_ with
| (dhasSaved, dkeptError, dmoved) =>
match V_ with
| (vkeys, vfirsts, vends, vvalues, vinferred, vgone, vmade) =>
match F_ with
| (fkeys, fdays, famounts, fversions, fcount) =>
match R_ with
| (rkeys, rdays, rvalues, rcount) =>
kl1241 l2 l7 l8 l10 (l13 + 1) (dhasSaved, dkeptError, dmoved) () (vkeys, vfirsts, vends, vvalues, vinferred, vgone, vmade) (fkeys, fdays, famounts, fversions, fcount) (rkeys, rdays, rvalues, rcount) wv xv () jv nv zv
def f_law_E3_S1250 (xs : Nat → Int32) (L K : Nat) (kx1250 : Int32 → Int32 → Int32 → Int32 → Int32 → Int32 → tD_ → tS_ → tV_ → tF_ → tR_ → tI_ → tI_ → tY_ → tJ_ → tI_ → tZ_ → Option (Unit)) (kl1250 : Int32 → Int32 → Int32 → Int32 → Int32 → Int32 → tD_ → tS_ → tV_ → tF_ → tR_ → tI_ → tI_ → tY_ → tJ_ → tI_ → tZ_ → Option (Unit)) (l2 : Int32) (l7 : Int32) (l8 : Int32) (l10 : Int32) (l13 : Int32) (l14 : Int32) (D_ : tD_) (S_ : tS_) (V_ : tV_) (F_ : tF_) (R_ : tR_) (wv : tI_) (xv : tI_) (Y_ : tY_) (jv : tJ_) (nv : tI_) (zv : tZ_) : Option (Unit) :=
match D_ with
| (dhasSaved, dkeptError, dmoved) =>
match V_ with
| (vkeys, vfirsts, vends, vvalues, vinferred, vgone, vmade) =>
match F_ with
| (fkeys, fdays, famounts, fversions, fcount) =>
match R_ with
| (rkeys, rdays, rvalues, rcount) =>
bd_ (f_X5_versionsOf l13 (dhasSaved, dkeptError, dmoved) () (vkeys, vfirsts, vends, vvalues, vinferred, vgone, vmade) (fkeys, fdays, famounts, fversions, fcount) (rkeys, rdays, rvalues, rcount)) (fun x2 =>
match x2 with
| Except.error E10 => none
| Except.ok r3 =>
if r3 ≤ l14 then
kx1250 l2 l7 l8 l10 l13 l14 (dhasSaved, dkeptError, dmoved) () (vkeys, vfirsts, vends, vvalues, vinferred, vgone, vmade) (fkeys, fdays, famounts, fversions, fcount) (rkeys, rdays, rvalues, rcount) wv xv () jv nv zv
else
bd_ (f_X5_versionAt l13 l14 (dhasSaved, dkeptError, dmoved) () (vkeys, vfirsts, vends, vvalues, vinferred, vgone, vmade) (fkeys, fdays, famounts, fversions, fcount) (rkeys, rdays, rvalues, rcount)) (fun x12 =>
match x12 with
| Except.error E20 => none
| Except.ok r13 =>
bd_ (f_X5_amountOf r13 (dhasSaved, dkeptError, dmoved) () (vkeys, vfirsts, vends, vvalues, vinferred, vgone, vmade) (fkeys, fdays, famounts, fversions, fcount) (rkeys, rdays, rvalues, rcount)) (fun x21 =>
match x21 with
| Except.error E29 => none
| Except.ok r22 =>
bd_ (f_X5_versionAt l13 l14 (dhasSaved, dkeptError, dmoved) () (vkeys, vfirsts, vends, vvalues, vinferred, vgone, vmade) (fkeys, fdays, famounts, fversions, fcount) (rkeys, rdays, rvalues, rcount)) (fun x30 =>
match x30 with
| Except.error E38 => none
| Except.ok r31 =>
gd_ r31 60 (
if (lg_cmp r22 (jv r31.toNatClampNeg)) = 0 then
bd_ (f_X5_versionAt l13 l14 (dhasSaved, dkeptError, dmoved) () (vkeys, vfirsts, vends, vvalues, vinferred, vgone, vmade) (fkeys, fdays, famounts, fversions, fcount) (rkeys, rdays, rvalues, rcount)) (fun x41 =>
match x41 with
| Except.error E49 => none
| Except.ok r42 =>
bd_ (f_X5_version r42 (4 : Int32) (dhasSaved, dkeptError, dmoved) () (vkeys, vfirsts, vends, vvalues, vinferred, vgone, vmade) (fkeys, fdays, famounts, fversions, fcount) (rkeys, rdays, rvalues, rcount)) (fun x50 =>
match x50 with
| Except.error E58 => none
| Except.ok r51 =>
bd_ (f_X5_versionAt l13 l14 (dhasSaved, dkeptError, dmoved) () (vkeys, vfirsts, vends, vvalues, vinferred, vgone, vmade) (fkeys, fdays, famounts, fversions, fcount) (rkeys, rdays, rvalues, rcount)) (fun x59 =>
match x59 with
| Except.error E67 => none
| Except.ok r60 =>
gd_ r60 60 (
if r51 = (nv r60.toNatClampNeg) then
kl1250 l2 l7 l8 l10 l13 (l14 + 1) (dhasSaved, dkeptError, dmoved) () (vkeys, vfirsts, vends, vvalues, vinferred, vgone, vmade) (fkeys, fdays, famounts, fversions, fcount) (rkeys, rdays, rvalues, rcount) wv xv () jv nv zv
else
none))))
else
none)))))
def f_law_E3_L1250 (xs : Nat → Int32) (L K : Nat) (kx1250 : Int32 → Int32 → Int32 → Int32 → Int32 → Int32 → tD_ → tS_ → tV_ → tF_ → tR_ → tI_ → tI_ → tY_ → tJ_ → tI_ → tZ_ → Option (Unit)) : Nat → Int32 → Int32 → Int32 → Int32 → Int32 → Int32 → tD_ → tS_ → tV_ → tF_ → tR_ → tI_ → tI_ → tY_ → tJ_ → tI_ → tZ_ → Option (Unit)
  | 0 => fun _ _ _ _ _ _ _ _ _ _ _ _ _ _ _ _ _ => none
  | n + 1 => fun l2 l7 l8 l10 l13 l14 D_ S_ V_ F_ R_ wv xv Y_ jv nv zv => f_law_E3_S1250 xs L K kx1250 (f_law_E3_L1250 xs L K kx1250 n) l2 l7 l8 l10 l13 l14 D_ S_ V_ F_ R_ wv xv Y_ jv nv zv
def f_law_E3_X1241 (xs : Nat → Int32) (L K : Nat) (k1329 : Int32 → Int32 → Int32 → tD_ → tS_ → tV_ → tF_ → tR_ → tI_ → tI_ → tY_ → tJ_ → tI_ → tZ_ → Option Unit) (l2 : Int32) (l7 : Int32) (l8 : Int32) (l10 : Int32) (l13 : Int32) (D_ : tD_) (S_ : tS_) (V_ : tV_) (F_ : tF_) (R_ : tR_) (wv : tI_) (xv : tI_) (Y_ : tY_) (jv : tJ_) (nv : tI_) (zv : tZ_) : Option (Unit) :=
match D_ with
| (dhasSaved, dkeptError, dmoved) =>
match V_ with
| (vkeys, vfirsts, vends, vvalues, vinferred, vgone, vmade) =>
match F_ with
| (fkeys, fdays, famounts, fversions, fcount) =>
match R_ with
| (rkeys, rdays, rvalues, rcount) =>
k1329 l7 l8 l10 (dhasSaved, dkeptError, dmoved) () (vkeys, vfirsts, vends, vvalues, vinferred, vgone, vmade) (fkeys, fdays, famounts, fversions, fcount) (rkeys, rdays, rvalues, rcount) wv xv () jv nv zv
def f_law_E3_S1241 (xs : Nat → Int32) (L K : Nat) (kx1241 : Int32 → Int32 → Int32 → Int32 → Int32 → tD_ → tS_ → tV_ → tF_ → tR_ → tI_ → tI_ → tY_ → tJ_ → tI_ → tZ_ → Option (Unit)) (kl1241 : Int32 → Int32 → Int32 → Int32 → Int32 → tD_ → tS_ → tV_ → tF_ → tR_ → tI_ → tI_ → tY_ → tJ_ → tI_ → tZ_ → Option (Unit)) (l2 : Int32) (l7 : Int32) (l8 : Int32) (l10 : Int32) (l13 : Int32) (D_ : tD_) (S_ : tS_) (V_ : tV_) (F_ : tF_) (R_ : tR_) (wv : tI_) (xv : tI_) (Y_ : tY_) (jv : tJ_) (nv : tI_) (zv : tZ_) : Option (Unit) :=
match D_ with
| (dhasSaved, dkeptError, dmoved) =>
match V_ with
| (vkeys, vfirsts, vends, vvalues, vinferred, vgone, vmade) =>
match F_ with
| (fkeys, fdays, famounts, fversions, fcount) =>
match R_ with
| (rkeys, rdays, rvalues, rcount) =>
if l2 ≤ l13 then
kx1241 l2 l7 l8 l10 l13 (dhasSaved, dkeptError, dmoved) () (vkeys, vfirsts, vends, vvalues, vinferred, vgone, vmade) (fkeys, fdays, famounts, fversions, fcount) (rkeys, rdays, rvalues, rcount) wv xv () jv nv zv
else
f_law_E3_L1250 xs L K (f_law_E3_X1250 xs L K kx1241 kl1241) fu_ l2 l7 l8 l10 l13 (0 : Int32) (dhasSaved, dkeptError, dmoved) () (vkeys, vfirsts, vends, vvalues, vinferred, vgone, vmade) (fkeys, fdays, famounts, fversions, fcount) (rkeys, rdays, rvalues, rcount) wv xv () jv nv zv
def f_law_E3_L1241 (xs : Nat → Int32) (L K : Nat) (kx1241 : Int32 → Int32 → Int32 → Int32 → Int32 → tD_ → tS_ → tV_ → tF_ → tR_ → tI_ → tI_ → tY_ → tJ_ → tI_ → tZ_ → Option (Unit)) : Nat → Int32 → Int32 → Int32 → Int32 → Int32 → tD_ → tS_ → tV_ → tF_ → tR_ → tI_ → tI_ → tY_ → tJ_ → tI_ → tZ_ → Option (Unit)
  | 0 => fun _ _ _ _ _ _ _ _ _ _ _ _ _ _ _ _ => none
  | n + 1 => fun l2 l7 l8 l10 l13 D_ S_ V_ F_ R_ wv xv Y_ jv nv zv => f_law_E3_S1241 xs L K kx1241 (f_law_E3_L1241 xs L K kx1241 n) l2 l7 l8 l10 l13 D_ S_ V_ F_ R_ wv xv Y_ jv nv zv
def f_law_E3 (xs : Nat → Int32) (L K : Nat) (k1329 : Int32 → Int32 → Int32 → tD_ → tS_ → tV_ → tF_ → tR_ → tI_ → tI_ → tY_ → tJ_ → tI_ → tZ_ → Option Unit) (l2 : Int32) (l7 : Int32) (l8 : Int32) (l10 : Int32) (D_ : tD_) (S_ : tS_) (V_ : tV_) (F_ : tF_) (R_ : tR_) (wv : tI_) (xv : tI_) (Y_ : tY_) (jv : tJ_) (nv : tI_) (zv : tZ_) : Option Unit :=
match D_ with
| (dhasSaved, dkeptError, dmoved) =>
match V_ with
| (vkeys, vfirsts, vends, vvalues, vinferred, vgone, vmade) =>
match F_ with
| (fkeys, fdays, famounts, fversions, fcount) =>
match R_ with
| (rkeys, rdays, rvalues, rcount) =>
f_law_E3_L1241 xs L K (f_law_E3_X1241 xs L K k1329) fu_ l2 l7 l8 l10 (0 : Int32) (dhasSaved, dkeptError, dmoved) () (vkeys, vfirsts, vends, vvalues, vinferred, vgone, vmade) (fkeys, fdays, famounts, fversions, fcount) (rkeys, rdays, rvalues, rcount) wv xv () jv nv zv
def f_law_E4 (xs : Nat → Int32) (L K : Nat)  (l7 : Int32) (l8 : Int32) (l10 : Int32) (D_ : tD_) (S_ : tS_) (V_ : tV_) (F_ : tF_) (R_ : tR_) (wv : tI_) (xv : tI_) (Y_ : tY_) (jv : tJ_) (nv : tI_) (zv : tZ_) : Option Unit :=
match D_ with
| (dhasSaved, dkeptError, dmoved) =>
match V_ with
| (vkeys, vfirsts, vends, vvalues, vinferred, vgone, vmade) =>
match F_ with
| (fkeys, fdays, famounts, fversions, fcount) =>
match R_ with
| (rkeys, rdays, rvalues, rcount) =>
bd_ (f_X5_versionCount (dhasSaved, dkeptError, dmoved) () (vkeys, vfirsts, vends, vvalues, vinferred, vgone, vmade) (fkeys, fdays, famounts, fversions, fcount) (rkeys, rdays, rvalues, rcount)) (fun r1 =>
if r1 = l10 then
bd_ (f_X5_removedCount (dhasSaved, dkeptError, dmoved) () (vkeys, vfirsts, vends, vvalues, vinferred, vgone, vmade) (fkeys, fdays, famounts, fversions, fcount) (rkeys, rdays, rvalues, rcount)) (fun r7 =>
if r7 = (l7 - l10) then
bd_ (f_X5_factCount (dhasSaved, dkeptError, dmoved) () (vkeys, vfirsts, vends, vvalues, vinferred, vgone, vmade) (fkeys, fdays, famounts, fversions, fcount) (rkeys, rdays, rvalues, rcount)) (fun r13 =>
if r13 = l8 then
some ()
else
none)
else
none)
else
none)
