import java.math.BigInteger;
import java.security.KeyFactory;
import java.security.Signature;
import java.security.spec.MGF1ParameterSpec;
import java.security.spec.PSSParameterSpec;
import java.security.spec.RSAPublicKeySpec;
import java.util.Arrays;
import java.util.Random;

/** VeilMint against answers that neither it nor the Model made: RFC 9497 (A.4.2) and the library's own RSASSA-PSS. */
final class KnownAnswersTest {
    private static final String SECRET =
        "051646b9e6e7a71ae27c1e1d0b87b4381db6d3595eeeb1adb41579adbf992f4278f9016eafc944edaa2b43183581779d";
    private static final String PUBLIC =
        "031d689686c611991b55f1a1d8f4305ccd6cb719446f660a30db61b7aa87b46acf59b7c0d4a9077b3da21c25dd482229a0";
    private static final String BLINDED =
        "02d338c05cbecb82de13d6700f09cb61190543a7b7e2c6cd4fca56887e564ea82653b27fdad383995ea6d02cf26d0e24d9";
    private static final String BLINDED2 =
        "02fa02470d7f151018b41e82223c32fad824de6ad4b5ce9f8e9f98083c9a726de9a1fc39d7a0cb6f4f188dd9cea01474cd";
    private static final String EVALUATED =
        "02a7bba589b3e8672aa19e8fd258de2e6aae20101c8d761246de97a6b5ee9cf105febce4327a326255a3c604f63f600ef6";
    private static final String EVALUATED2 =
        "028e9e115625ff4c2f07bf87ce3fd73fc77994a7a0c1df03d2a630a3d845930e2e63a165b114d98fe34e61b68d23c0b50a";
    private static final String RANDOM =
        "803d955f0e073a04aa5d92b3fb739f56f9db001266677f62c095021db018cd8cbb55941d4073698ce45c405d1348b7b1";
    private static final String PROOF =
        "bfc6cf3859127f5fe25548859856d6b7fa1c7459f0ba5712a806fc091a3000c42d8ba34ff45f32a52e40533efd2a03bc"
        + "87f3bf4f9f58028297ccb9ccb18ae7182bcd1ef239df77e3be65ef147f3acf8bc9cbfc5524b702263414f043e3b7ca2e";
    private static final String RANDOM2 =
        "a097e722ed2427de86966910acba9f5c350e8040f828bf6ceca27405420cdf3d63cb3aef005f40ba51943c8026877963";
    private static final String PROOF2 =
        "6d8dcbd2fc95550a02211fb78afd013933f307d21e7d855b0b1ed0af78076d8137ad8b0a1bfa05676d325249c1dbb9a5"
        + "2bd81b1c2b7b0efc77cf7b278e1c947f6283f1d4c513053fc0ad19e026fb0c30654b53d9cea4b87b037271b5d2e2d0ea";

    public static void main(String[] args) throws Exception {
        published();
        signatures();
        Pair.finish("KnownAnswersTest");
    }

    private static void published() {
        Pair pair = new Pair("RFC 9497");
        pair.put(Model.hex(SECRET)).key(1);
        pair.due(pair.look(0, 1), 49);
        Pair.check("pkSm", Arrays.equals(pair.seen(), Model.hex(PUBLIC)));
        pair.look(0, 0);
        byte[] head = {0, 1, (byte) pair.out(31)};
        pair.due(pair.put(head, Model.hex(BLINDED), Model.hex(RANDOM)).issue(), 145);
        Pair.check("vector 1", Arrays.equals(pair.seen(), Model.hex(EVALUATED + PROOF)));
        pair.due(pair.put(head, Model.hex(BLINDED), Model.hex(BLINDED2), Model.hex(RANDOM2)).issueMany(2), 194);
        Pair.check("vector 3", Arrays.equals(pair.seen(), Model.hex(EVALUATED + EVALUATED2 + PROOF2)));
    }

    private static void signatures() throws Exception {
        Random random = new Random(11);
        Rsa[] all = {
            Rsa.make(528, 65537, 0, random), Rsa.make(521, 3, 0, random), Rsa.make(1024, 65537, 48, random),
            Rsa.make(793, 17, 48, random), Rsa.make(2048, 65537, 48, random), Rsa.make(2041, 3, 48, random)
        };
        for (Rsa rsa : all) {
            Pair pair = new Pair("a modulus of " + rsa.n.bitLength() + " bits");
            byte[] token = pair.signedToken(pair.rsaKey(rsa), rsa, Pair.random(random, 32), 5);
            Pair.check("length of a token", token.length == 98 + rsa.len);
            Signature library = Signature.getInstance("RSASSA-PSS");
            library.setParameter(new PSSParameterSpec("SHA-384", "MGF1", MGF1ParameterSpec.SHA384, rsa.salt, 1));
            library.initVerify(KeyFactory.getInstance("RSA").generatePublic(new RSAPublicKeySpec(rsa.n, rsa.e)));
            library.update(token, 0, 98);
            Pair.check("the library takes it", library.verify(Model.slice(token, 98, rsa.len)));
            pair.due(pair.put(token).redeem(), 0);
            BigInteger signature = Model.number(Model.slice(token, 98, rsa.len));
            if (signature.add(rsa.n).bitLength() <= 8 * rsa.len) {
                byte[] more = Model.bytes(signature.add(rsa.n), rsa.len);
                pair.due(pair.put(Model.slice(token, 0, 98), more).redeem(), VeilMint.BAD);
            }
        }
    }
}
