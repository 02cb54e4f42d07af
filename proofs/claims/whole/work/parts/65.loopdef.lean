def f_law_S (k_ : Int32 → tD_ → tS_ → tV_ → tF_ → tR_ → tS_ → tV_ → tF_ → tR_ → tV_ → tR_ → tT_ → tM_ → tO_ → tP_ → Option Unit) (xs : Nat → Int32) (L : Nat) (l5 : Int32) (D_ : tD_) (S_ : tS_) (V_ : tV_) (F_ : tF_) (R_ : tR_) (Z_ : tS_) (W_ : tV_) (G_ : tF_) (H_ : tR_) (B_ : tV_) (Q_ : tR_) (T_ : tT_) (M_ : tM_) (ov : tO_) (pv : tP_) : Option Unit :=
if Int32.ofNat L - 4 < l5 then some () else
gd_ l5 L (
if xs l5.toNatClampNeg &&& 63 = 0 then f_law_c0 k_ xs L l5 D_ S_ V_ F_ R_ Z_ W_ G_ H_ B_ Q_ T_ M_ ov pv else
if xs l5.toNatClampNeg &&& 63 = 1 then f_law_c1 k_ xs L l5 D_ S_ V_ F_ R_ Z_ W_ G_ H_ B_ Q_ T_ M_ ov pv else
if xs l5.toNatClampNeg &&& 63 = 2 then f_law_c2 k_ xs L l5 D_ S_ V_ F_ R_ Z_ W_ G_ H_ B_ Q_ T_ M_ ov pv else
if xs l5.toNatClampNeg &&& 63 = 3 then f_law_c3 k_ xs L l5 D_ S_ V_ F_ R_ Z_ W_ G_ H_ B_ Q_ T_ M_ ov pv else
if xs l5.toNatClampNeg &&& 63 = 4 then f_law_c4 k_ xs L l5 D_ S_ V_ F_ R_ Z_ W_ G_ H_ B_ Q_ T_ M_ ov pv else
if xs l5.toNatClampNeg &&& 63 = 5 then f_law_c5 k_ xs L l5 D_ S_ V_ F_ R_ Z_ W_ G_ H_ B_ Q_ T_ M_ ov pv else
if xs l5.toNatClampNeg &&& 63 = 6 then f_law_c6 k_ xs L l5 D_ S_ V_ F_ R_ Z_ W_ G_ H_ B_ Q_ T_ M_ ov pv else
if xs l5.toNatClampNeg &&& 63 = 7 then f_law_c7 k_ xs L l5 D_ S_ V_ F_ R_ Z_ W_ G_ H_ B_ Q_ T_ M_ ov pv else
if xs l5.toNatClampNeg &&& 63 = 8 then f_law_c8 k_ xs L l5 D_ S_ V_ F_ R_ Z_ W_ G_ H_ B_ Q_ T_ M_ ov pv else
if xs l5.toNatClampNeg &&& 63 = 9 then f_law_c9 k_ xs L l5 D_ S_ V_ F_ R_ Z_ W_ G_ H_ B_ Q_ T_ M_ ov pv else
if xs l5.toNatClampNeg &&& 63 = 10 then f_law_c10 k_ xs L l5 D_ S_ V_ F_ R_ Z_ W_ G_ H_ B_ Q_ T_ M_ ov pv else
if xs l5.toNatClampNeg &&& 63 = 11 then f_law_c11 k_ xs L l5 D_ S_ V_ F_ R_ Z_ W_ G_ H_ B_ Q_ T_ M_ ov pv else
if xs l5.toNatClampNeg &&& 63 = 12 then f_law_c12 k_ xs L l5 D_ S_ V_ F_ R_ Z_ W_ G_ H_ B_ Q_ T_ M_ ov pv else
if xs l5.toNatClampNeg &&& 63 = 13 then f_law_c13 k_ xs L l5 D_ S_ V_ F_ R_ Z_ W_ G_ H_ B_ Q_ T_ M_ ov pv else
if xs l5.toNatClampNeg &&& 63 = 14 then f_law_c14 k_ xs L l5 D_ S_ V_ F_ R_ Z_ W_ G_ H_ B_ Q_ T_ M_ ov pv else
if xs l5.toNatClampNeg &&& 63 = 15 then f_law_c15 k_ xs L l5 D_ S_ V_ F_ R_ Z_ W_ G_ H_ B_ Q_ T_ M_ ov pv else
if xs l5.toNatClampNeg &&& 63 = 16 then f_law_c16 k_ xs L l5 D_ S_ V_ F_ R_ Z_ W_ G_ H_ B_ Q_ T_ M_ ov pv else
if xs l5.toNatClampNeg &&& 63 = 17 then f_law_c17 k_ xs L l5 D_ S_ V_ F_ R_ Z_ W_ G_ H_ B_ Q_ T_ M_ ov pv else
if xs l5.toNatClampNeg &&& 63 = 18 then f_law_c18 k_ xs L l5 D_ S_ V_ F_ R_ Z_ W_ G_ H_ B_ Q_ T_ M_ ov pv else
if xs l5.toNatClampNeg &&& 63 = 19 then f_law_c19 k_ xs L l5 D_ S_ V_ F_ R_ Z_ W_ G_ H_ B_ Q_ T_ M_ ov pv else
if xs l5.toNatClampNeg &&& 63 = 20 then f_law_c20 k_ xs L l5 D_ S_ V_ F_ R_ Z_ W_ G_ H_ B_ Q_ T_ M_ ov pv else
if xs l5.toNatClampNeg &&& 63 = 21 then f_law_c21 k_ xs L l5 D_ S_ V_ F_ R_ Z_ W_ G_ H_ B_ Q_ T_ M_ ov pv else
if xs l5.toNatClampNeg &&& 63 = 22 then f_law_c22 k_ xs L l5 D_ S_ V_ F_ R_ Z_ W_ G_ H_ B_ Q_ T_ M_ ov pv else
if xs l5.toNatClampNeg &&& 63 = 23 then f_law_c23 k_ xs L l5 D_ S_ V_ F_ R_ Z_ W_ G_ H_ B_ Q_ T_ M_ ov pv else
if xs l5.toNatClampNeg &&& 63 = 24 then f_law_c24 k_ xs L l5 D_ S_ V_ F_ R_ Z_ W_ G_ H_ B_ Q_ T_ M_ ov pv else
if xs l5.toNatClampNeg &&& 63 = 25 then f_law_c25 k_ xs L l5 D_ S_ V_ F_ R_ Z_ W_ G_ H_ B_ Q_ T_ M_ ov pv else
if xs l5.toNatClampNeg &&& 63 = 26 then f_law_c26 k_ xs L l5 D_ S_ V_ F_ R_ Z_ W_ G_ H_ B_ Q_ T_ M_ ov pv else
if xs l5.toNatClampNeg &&& 63 = 27 then f_law_c27 k_ xs L l5 D_ S_ V_ F_ R_ Z_ W_ G_ H_ B_ Q_ T_ M_ ov pv else
if xs l5.toNatClampNeg &&& 63 = 28 then f_law_c28 k_ xs L l5 D_ S_ V_ F_ R_ Z_ W_ G_ H_ B_ Q_ T_ M_ ov pv else
if xs l5.toNatClampNeg &&& 63 = 29 then f_law_c29 k_ xs L l5 D_ S_ V_ F_ R_ Z_ W_ G_ H_ B_ Q_ T_ M_ ov pv else
if xs l5.toNatClampNeg &&& 63 = 30 then f_law_c30 k_ xs L l5 D_ S_ V_ F_ R_ Z_ W_ G_ H_ B_ Q_ T_ M_ ov pv else
if xs l5.toNatClampNeg &&& 63 = 31 then f_law_c31 k_ xs L l5 D_ S_ V_ F_ R_ Z_ W_ G_ H_ B_ Q_ T_ M_ ov pv else
if xs l5.toNatClampNeg &&& 63 = 32 then f_law_c32 k_ xs L l5 D_ S_ V_ F_ R_ Z_ W_ G_ H_ B_ Q_ T_ M_ ov pv else
if xs l5.toNatClampNeg &&& 63 = 33 then f_law_c33 k_ xs L l5 D_ S_ V_ F_ R_ Z_ W_ G_ H_ B_ Q_ T_ M_ ov pv else
if xs l5.toNatClampNeg &&& 63 = 34 then f_law_c34 k_ xs L l5 D_ S_ V_ F_ R_ Z_ W_ G_ H_ B_ Q_ T_ M_ ov pv else
if xs l5.toNatClampNeg &&& 63 = 35 then f_law_c35 k_ xs L l5 D_ S_ V_ F_ R_ Z_ W_ G_ H_ B_ Q_ T_ M_ ov pv else
k_ (l5 + 4) D_ S_ V_ F_ R_ Z_ W_ G_ H_ B_ Q_ T_ M_ ov pv)
def f_law_L (xs : Nat → Int32) (L : Nat) : Nat → Int32 → tD_ → tS_ → tV_ → tF_ → tR_ → tS_ → tV_ → tF_ → tR_ → tV_ → tR_ → tT_ → tM_ → tO_ → tP_ → Option Unit
  | 0 => fun _ _ _ _ _ _ _ _ _ _ _ _ _ _ _ _ => none
  | n + 1 => fun l5 D_ S_ V_ F_ R_ Z_ W_ G_ H_ B_ Q_ T_ M_ ov pv => f_law_S (f_law_L xs L n) xs L l5 D_ S_ V_ F_ R_ Z_ W_ G_ H_ B_ Q_ T_ M_ ov pv
theorem lj_ {L j : Nat} (hL : L ≤ 2048) (hj : 4 * j ≤ L) (h : ¬ Int32.ofNat L - 4 < nI (4 * j)) : 4 * j + 4 ≤ L := by
  have h4 : (4 : Int32) = nI 4 := rfl
  rw [show Int32.ofNat L = nI L from rfl, h4, Int32.lt_iff_toInt_lt, pk_sub_toInt (by omega) (by omega), nI_toInt (by omega)] at h
  omega
