import java.math.BigInteger;
import java.util.ArrayList;
import java.util.List;

/** The edges of promises 23 to 26, a sentence each, and of what holds for all calls: refusals, 512 calls. */
public final class EdgesOfToldTest {
    /** The numbers of the digest in order, as the other calls tell them. */
    private static List<Integer> numbers(OtherName x, String page) {
        List<Integer> all = new ArrayList<>();
        for (int what = 0; what < 4; what++) all.add(x.lawTold(what));
        for (int i = 0; i < x.count(0); i++) {
            for (int what = 0; what < 8; what++) all.add(x.about(i, what));
            all.add(x.kin(i));
            all.add(x.sure(i));
            all.add(x.couples(10 + i));
        }
        all.add(x.wrong(0));
        all.add(x.wrong(1));
        all.add(x.ways());
        for (int what = 0; what < 4; what++) all.add(x.laws(what));
        for (int name = 0; name < 6; name++) all.add(x.lasts(name));
        for (char c : page.toCharArray()) all.add((int) c);
        for (int what = 0; what < 7; what++) all.add(x.count(what));
        return all;
    }

    /** Without wrapping; a long's value of it is the digest. */
    private static BigInteger fold(List<Integer> numbers) {
        BigInteger h = BigInteger.valueOf(601);
        for (int n : numbers) h = h.multiply(BigInteger.valueOf(31)).add(BigInteger.valueOf(n));
        return h;
    }

    /** Of all kinds: three gaps, entries right and wrong, some dead. */
    private static OtherName full() {
        OtherName x = Due.withLaw("f3mtp");
        Due.man(x, 0);
        Due.woman(x, 1);
        x.person(Due.FOUNDLING, Due.MAN, Due.NONE, Due.NONE, 5);
        x.person(Due.FOUNDLING, Due.WOMAN, Due.NONE, Due.NONE, 4);
        Due.son(x, 0, 1);
        Due.born(x, Due.TWIN, Due.WOMAN, 2, 3);
        Due.born(x, Due.HEIR, Due.MAN, 4, 5);
        Due.daughter(x, Due.GAP, 5);
        Due.born(x, Due.TWIN, Due.MAN, Due.GAP, 1);
        Due.born(x, Due.HEIR, Due.WOMAN, Due.GAP, 3);
        Due.son(x, 6, 7);
        Due.born(x, Due.HEIR, Due.WOMAN, 2, 9);
        x.write(0, 0);
        x.write(4, 0);
        x.write(10, 0);
        x.dies(4);
        x.dies(11);
        return x;
    }

    private static void image() {
        Due.says("23", "An IMAGE is kept (one; the latest): how many PEOPLE.");
        OtherName x = new OtherName();
        Due.due("of nobody", x.image(), 0);
        for (int n = 1; n <= 12; n++) {
            Due.man(x, 0);
            Due.due("of " + n, x.image(), n);
        }
        Due.due("the latest", x.restore(), 12);
        x = new OtherName();
        Due.man(x, 1);
        x.image();
        x.call(0, 2);
        x.image();
        x.call(0, 3);
        x.restore();
        Due.due("the latest, not the first", x.about(0, 4), 2);
        x.restore();
        Due.due("one: no other is behind it", x.about(0, 4), 2);
        long ahead = x.digest();
        x.image();
        Due.due("to keep changes nothing", x.digest(), ahead);
    }

    private static void restoredPeople() {
        Due.says("terms", "An IMAGE keeps how many PEOPLE there are (those that come since are gone by restore())");
        OtherName x = new OtherName();
        x.image();
        for (int i = 0; i < 12; i++) Due.man(x, 0);
        Due.due("all are gone", x.restore(), 0);
        Due.due("nobody", x.about(0, 0), Due.UNKNOWN);
        Due.due("numbers begin anew", Due.woman(x, 3), 0);
        Due.due("another one", x.about(0, 1), Due.WOMAN);
        x = full();
        x.image();
        Due.due("twelve stay", x.restore(), 12);
        x = new OtherName();
        Due.man(x, 1);
        Due.woman(x, 2);
        x.image();
        Due.son(x, 0, 1);
        x.write(2, 1);
        x.dies(2);
        x.restore();
        Due.due("entries of those who are gone are gone", x.count(3), 0);
        Due.due("another comes", Due.man(x, 4), 2);
        Due.due("nothing is written of it", x.about(2, 5), Due.NONE);
        Due.due("it is alive", x.about(2, 6), 1);
        Due.due("it has its own name", x.about(2, 4), 4);
        Due.due("it has its own parents", x.near(2, 0), Due.NONE);
        Due.due("its own generation", x.about(2, 7), 0);
        x.restore();
        for (int i = 2; i < 5; i++) Due.due("a gap", Due.son(x, Due.GAP, 1), i);
        Due.due("three gaps", x.count(1), 3);
        x.restore();
        Due.due("no gap any more", x.count(1), 0);
        for (int i = 2; i < 5; i++) Due.due("a gap again", Due.son(x, Due.GAP, 1), i);
    }

    private static void restoredThings() {
        Due.says("terms", "An IMAGE keeps .. NAMES that are told, WRITTEN, who is ALIVE.");
        OtherName x = full();
        long ahead = x.digest();
        x.image();
        for (int i = 0; i < 4; i++) x.call(i, 3);
        for (int i = 0; i < 12; i++) x.write(i, i % 2 == 0 ? Due.NONE : 2);
        for (int i = 0; i < 11; i++) x.dies(i);
        Due.due("how many people", x.restore(), 12);
        Due.due("all is as it was", x.digest(), ahead);
        x.call(0, 4);
        Due.due("again", x.restore(), 12);
        Due.due("all is as it was", x.digest(), ahead);

        Due.says("terms", "An IMAGE keeps (nothing of THE LAW, THE PAGE, and what was done)");
        x = Due.chain("f", 3, 1, 4);
        x.image();
        Due.page(x, "m");
        x.law();
        Due.page(x, "p5");
        x.mended(0);
        x.mended(0);
        x.restore();
        Due.names("by the new law", x, 3, 1, 1, 1);
        Due.lawTold("it stays", x, Due.M, 0, Due.NONE, Due.M);
        int[] due = {4, 0, 4, 0, 2, 2, 2};
        for (int what = 0; what < 7; what++) Due.due("count " + what, x.count(what), due[what]);
        Due.due("the page stays", x.letters('m'), 3);
        Due.due("and is a law", x.law(), 3);

        Due.says("24", "STATE: none was kept.");
        OtherName y = full();
        Due.refused("none", y, y.digest(), y.restore(), Due.STATE);
        y.image();
        Due.due("one", y.restore(), 12);
        Due.due("it is kept still", y.restore(), 12);
    }

    private static void count() {
        Due.says("25", "0 PEOPLE, 1 GAPS, 2 who are ALIVE, 3 what is WRITTEN, 4 letters of THE PAGE, 5 how often THE LAW was read, "
            + "6 how often mended() was done.");
        OtherName x = new OtherName();
        for (int what = 0; what < 7; what++) Due.due("at first, " + what, x.count(what), 0);
        x = full();
        Due.page(x, "abcdefghijklmnop");
        for (int i = 0; i < 12; i++) x.write(i, 0);
        for (int i = 0; i < 40; i++) x.mended(0);
        int[] due = {12, 3, 10, 12, 16, 1, 40};
        for (int what = 0; what < 7; what++) Due.due("the most, " + what, x.count(what), due[what]);
        x.write(5, Due.NONE);
        Due.due("a hole is not written", x.count(3), 11);

        Due.says("25", "OUTSIDE.");
        long ahead = x.digest();
        Due.refused("below", x, ahead, x.count(-1), Due.OUTSIDE);
        Due.refused("above", x, ahead, x.count(7), Due.OUTSIDE);
        for (int far : Due.FAR) Due.refused("what = " + far, x, ahead, x.count(far), Due.OUTSIDE);
    }

    private static void digest() {
        Due.says("26", "h is 601, then for each of these numbers, in order, 31 times h, and it");
        OtherName x = new OtherName();
        int[] due = {0, 3, 2, 1, 0, -1, 1, 68, 0, 0, -1, 0, 0, 0, 0, 0, 0, 0, 0, 0, 0, 0, 0, 0};
        List<Integer> empty = new ArrayList<>();
        for (int n : due) empty.add(n);
        Due.due("nobody", x.digest(), fold(empty).longValue());
        // One man of name 2, written 3, one letter "a", and an image, which is not told.
        Due.man(x, 2);
        x.write(0, 3);
        x.letters('a');
        x.image();
        int[] one = {0, 3, 2, 1, 1, 0, -1, -1, 2, 3, 1, 0, -1, -1, -1, 1, 0, 0, 0, -1, -1, -1, 0, 0, 1, 0, 0, 0, 97, 1, 0, 1, 1, 1, 0, 0};
        List<Integer> single = new ArrayList<>();
        for (int n : one) single.add(n);
        Due.due("one", x.digest(), fold(single).longValue());

        Due.says("26", "(as longs, wrapping)");
        OtherName y = full();
        Due.page(y, "~\u0001f3gtm");
        BigInteger whole = fold(numbers(y, "~\u0001f3gtm"));
        Due.due("it is beyond a long", whole.bitLength() > 63 ? 1 : 0, 1);
        Due.due("of twelve", y.digest(), whole.longValue());

        Due.says("26", "of each PERSON .. KIN, SURE, whom it weds of COUPLES (of several ways, of one, of none)");
        for (int v = Due.NONE; v < 6; v++) {
            OtherName z = full();
            z.write(8, v);
            Due.due("written " + v, z.digest(), fold(numbers(z, "")).longValue());
        }

        Due.says("26", "letters of THE PAGE");
        for (String page : new String[] {"", "a", "ab", "ba", "abcdefghijklmnop"}) {
            OtherName z = new OtherName();
            Due.page(z, page);
            Due.due("'" + page + "'", z.digest(), fold(numbers(z, page)).longValue());
            z.blank();
            Due.due("blank", z.digest(), fold(empty).longValue());
        }

        Due.says("26", "what count() tells for 0 to 6 (and digest() does nothing itself)");
        long ahead = y.digest();
        for (int i = 0; i < 50; i++) Due.due("again", y.digest(), ahead);
        Due.due("mended() was not done", y.count(6), 0);
    }

    /** Each call that can be refused, with each word that it is refused by. */
    private static void refusals() {
        Due.says("terms", "Refusals, of several the first as told by each call ..; they change nothing.");
        OtherName x = full();
        Due.page(x, "f3gtmf3gtmf3gtmf");
        x.image();
        x.call(0, 1);
        x.write(11, 4);
        long ahead = x.digest();
        Due.refused("letters OUTSIDE", x, ahead, x.letters(0x7fL), Due.OUTSIDE);
        Due.refused("letters FULL", x, ahead, x.letters(0x61L), Due.FULL);
        Due.refused("law STATE", x, ahead, x.law(), Due.STATE);
        Due.refused("lawTold OUTSIDE", x, ahead, x.lawTold(4), Due.OUTSIDE);
        Due.refused("person OUTSIDE", x, ahead, x.person(5, 0, 0, 1, 0), Due.OUTSIDE);
        Due.refused("person UNKNOWN", x, ahead, x.person(0, 0, 1, 1, 0), Due.UNKNOWN);
        Due.refused("person OUTSIDE", x, ahead, x.person(0, 0, 0, 1, 1), Due.OUTSIDE);
        Due.refused("person FULL", x, ahead, x.person(0, 0, 0, 1, 0), Due.FULL);
        Due.refused("about UNKNOWN", x, ahead, x.about(12, 0), Due.UNKNOWN);
        Due.refused("about OUTSIDE", x, ahead, x.about(11, 8), Due.OUTSIDE);
        Due.refused("as UNKNOWN", x, ahead, x.as(12, 0), Due.UNKNOWN);
        Due.refused("as OUTSIDE", x, ahead, x.as(11, 5), Due.OUTSIDE);
        Due.refused("call UNKNOWN", x, ahead, x.call(12, 0), Due.UNKNOWN);
        Due.refused("call STATE", x, ahead, x.call(4, 5), Due.STATE);
        Due.refused("call OUTSIDE", x, ahead, x.call(0, 6), Due.OUTSIDE);
        Due.refused("write UNKNOWN", x, ahead, x.write(12, 0), Due.UNKNOWN);
        Due.refused("write OUTSIDE", x, ahead, x.write(11, 6), Due.OUTSIDE);
        Due.refused("dies UNKNOWN", x, ahead, x.dies(12), Due.UNKNOWN);
        Due.refused("dies STATE", x, ahead, x.dies(11), Due.STATE);
        Due.refused("wrong OUTSIDE", x, ahead, x.wrong(2), Due.OUTSIDE);
        Due.refused("mended OUTSIDE", x, ahead, x.mended(5), Due.OUTSIDE);
        Due.refused("sure UNKNOWN", x, ahead, x.sure(12), Due.UNKNOWN);
        Due.refused("laws OUTSIDE", x, ahead, x.laws(4), Due.OUTSIDE);
        Due.refused("near UNKNOWN", x, ahead, x.near(0, 12), Due.UNKNOWN);
        Due.refused("kin UNKNOWN", x, ahead, x.kin(12), Due.UNKNOWN);
        Due.refused("may UNKNOWN", x, ahead, x.may(12, 0), Due.UNKNOWN);
        Due.refused("couples OUTSIDE", x, ahead, x.couples(9), Due.OUTSIDE);
        Due.refused("lasts UNKNOWN", x, ahead, x.lasts(6), Due.UNKNOWN);
        Due.refused("count OUTSIDE", x, ahead, x.count(7), Due.OUTSIDE);
        Due.due("the image is the one that was kept", x.restore(), 12);
        Due.due("its name", x.about(0, 4), 0);
        Due.due("its entry", x.about(11, 5), Due.NONE);
    }

    /** What only tells, with all it can be asked, leaves everything as it is. */
    private static void tellings() {
        Due.says("terms", "(what only tells changes nothing)");
        OtherName x = full();
        Due.page(x, "f3");
        long ahead = x.digest();
        for (int i = 0; i < 12; i++) {
            for (int what = 0; what < 8; what++) x.about(i, what);
            for (int kind = 0; kind < 5; kind++) x.as(i, kind);
            x.sure(i);
            x.kin(i);
            x.near(i, 11 - i);
            x.may(i, 11 - i);
            x.couples(10 + i);
            Due.due("told of " + i, x.digest(), ahead);
        }
        x.fault();
        x.ways();
        x.couples(0);
        for (int what = 0; what < 4; what++) Due.due("wrong, laws " + what, x.laws(what) + x.wrong(what % 2) < -100 ? 1 : 0, 0);
        Due.due("told of all", x.digest(), ahead);
    }

    private static void fiveHundredAndTwelve() {
        Due.says("what it is", "An object is used for at most 512 calls after it has been made");
        OtherName x = new OtherName();
        int calls = 0;
        for (int n = 1; n <= 255; n++) {
            x.letters('m');
            Due.due("law", x.law(), n);
            calls += 2;
        }
        Due.due("the 511th", x.count(5), 255);
        calls++;
        OtherName y = new OtherName();
        y.letters('m');
        y.law();
        List<Integer> numbers = numbers(y, "");
        numbers.set(numbers.size() - 2, 255);
        Due.due("the 512th", x.digest(), fold(numbers).longValue());
        calls++;
        Due.due("calls", calls, 512);
    }

    public static void main(String[] args) {
        image();
        restoredPeople();
        restoredThings();
        count();
        digest();
        refusals();
        tellings();
        fiveHundredAndTwelve();
        Due.end("edges of what is told");
    }
}
