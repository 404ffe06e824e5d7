import java.math.BigInteger;
import java.util.List;

/** The model itself against published answers: RFC 9380 (J.3.1) and RFC 9497 (A.4.2), else it would prove nothing. */
final class ModelTest {
    private static int wrong = 0;

    private static void due(String what, byte[] got, String want) {
        if (!java.util.Arrays.equals(got, Model.hex(want))) {
            wrong++;
            System.out.println(what + ": " + new BigInteger(1, got).toString(16) + ", due is " + want);
        }
    }

    public static void main(String[] args) {
        Model.Spot empty = Model.hashToCurve(new byte[0], Model.text("QUUX-V01-CS02-with-P384_XMD:SHA-384_SSWU_RO_"));
        due("hash_to_curve x", Model.bytes(empty.x(), 48),
            "eb9fe1b4f4e14e7140803c1d99d0a93cd823d2b024040f9c067a8eca1f5a2eeac9ad604973527a356f3fa3aeff0e4d83");
        due("hash_to_curve y", Model.bytes(empty.y(), 48),
            "0c21708cff382b7f4643c07b105c2eaec2cead93a917d825601e63c8f21f6abd9abc22c93c2bed6f235954b25048bb1a");
        BigInteger k = new BigInteger(
            "051646b9e6e7a71ae27c1e1d0b87b4381db6d3595eeeb1adb41579adbf992f4278f9016eafc944edaa2b43183581779d", 16);
        due("pkSm", Model.element(Model.times(k, Model.G)),
            "031d689686c611991b55f1a1d8f4305ccd6cb719446f660a30db61b7aa87b46acf59b7c0d4a9077b3da21c25dd482229a0");
        BigInteger blind = new BigInteger(
            "504650f53df8f16f6861633388936ea23338fa65ec36e0290022b48eb562889d89dbfa691d1cde91517fa222ed7ad364", 16);
        Model.Spot in = Model.hashToGroup(new byte[1]);
        Model.Spot asked = Model.times(blind, in);
        due("BlindedElement", Model.element(asked),
            "02d338c05cbecb82de13d6700f09cb61190543a7b7e2c6cd4fca56887e564ea82653b27fdad383995ea6d02cf26d0e24d9");
        due("EvaluationElement", Model.element(Model.times(k, asked)),
            "02a7bba589b3e8672aa19e8fd258de2e6aae20101c8d761246de97a6b5ee9cf105febce4327a326255a3c604f63f600ef6");
        BigInteger r = new BigInteger(
            "803d955f0e073a04aa5d92b3fb739f56f9db001266677f62c095021db018cd8cbb55941d4073698ce45c405d1348b7b1", 16);
        byte[] answer = Model.evaluate(k, List.of(asked), r);
        due("Proof", Model.slice(answer, 49, 96),
            "bfc6cf3859127f5fe25548859856d6b7fa1c7459f0ba5712a806fc091a3000c42d8ba34ff45f32a52e40533efd2a03bc"
            + "87f3bf4f9f58028297ccb9ccb18ae7182bcd1ef239df77e3be65ef147f3acf8bc9cbfc5524b702263414f043e3b7ca2e");
        due("Output", Model.output(new byte[1], Model.times(k, in)),
            "3333230886b562ffb8329a8be08fea8025755372817ec969d114d1203d026b4a622beab60220bf19078bca35a529b35c");
        System.out.println(wrong + " wrong");
        System.exit(wrong == 0 ? 0 : 1);
    }
}
