/** The example of README.md, line by line. */
public final class ReadmeTest {

    public static void main(String[] args) {
        BiteFirst x = new BiteFirst();
        int good = x.good(3, 9);
        int eater = x.eater(0, 0b111);
        Due.is("best(eater, 0)", x.best(eater, 0), 6);
        Due.is("bite(eater, good, 6)", x.bite(eater, good, 6), 6);
        Due.is("told(eater, 4)", x.told(eater, 4), 27);
        String free = "pays 0;likes worth;waits 0;";
        for (int k = 0; k < free.length(); k++) {
            x.feed(1, free.charAt(k), 0, 0, 0, 0);
        }
        int law = x.text();
        Due.is("text()", law, 1);
        Due.is("force(law)", x.force(law), 0);
        Due.is("bite(eater, good, 9)", x.bite(eater, good, 9), 0);
        Due.is("told(eater, 4), then", x.told(eater, 4), 54);
        Due.end("ReadmeTest");
    }
}
