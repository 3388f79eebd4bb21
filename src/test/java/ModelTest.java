import java.util.Random;

/** Compares the class with the model on texts made by chance; the same each time, for the seed is fixed. */
public final class ModelTest {
    private static final int TEXTS = 60000;
    private static final int[] endings = new int[8];
    private static final int[] answers = new int[3];

    private ModelTest() {
    }

    public static void main(String[] args) throws InterruptedException {
        int texts = args.length > 0 ? Integer.parseInt(args[0]) : TEXTS;
        long seed = args.length > 1 ? Long.parseLong(args[1]) : 20261116L;
        Thread roomy = new Thread(null, () -> compareAll(texts, seed), "model", 1L << 29);
        roomy.start();
        roomy.join();
        for (int i = 0; i < answers.length; i++) {
            System.out.println("read answered " + -i + ": " + answers[i] + " times");
            Checks.due("some read answered " + -i + " as 1", answers[i] > 0 ? 1 : 0, 1);
        }
        for (int i = 0; i < endings.length; i++) {
            System.out.println("ending " + i + ": " + endings[i] + " runs");
            Checks.due("some run came to ending " + i + " as 1", endings[i] > 0 ? 1 : 0, 1);
        }
        Checks.end();
    }

    private static void compareAll(int texts, long seed) {
        Random random = new Random(seed);
        Texts maker = new Texts(random);
        NameCalls calls = new NameCalls();
        Model last = null;
        for (int i = 0; i < texts; i++) {
            // Four texts take less than 500 calls, and an object is used for at most 512.
            if (i % 4 == 0) {
                calls = new NameCalls();
                last = null;
            }
            String text = maker.next();
            if (random.nextInt(4) == 0) {
                text = maker.spoiled(text);
            }
            Model model = new Model();
            int answer = model.read(text);
            answers[-answer]++;
            Checks.due("read of " + text, Checks.reread(calls, text), answer);
            if (answer == 0) {
                last = model;
            }
            compareAbout(text, calls, last);
            if (last != null) {
                compareRun(text, calls, last, 1000);
                compareRun(text, calls, last, random.nextInt(1001));
            }
        }
    }

    private static void compareAbout(String text, NameCalls calls, Model model) {
        Checks.due("about(0) of " + text, calls.about(0), model == null ? -1 : model.procedures);
        Checks.due("about(1) of " + text, calls.about(1), model == null ? -1 : model.variables);
        Checks.due("about(2) of " + text, calls.about(2), model == null ? -1 : model.statements);
        Checks.due("about(3) of " + text, calls.about(3), model == null ? -1 : model.depth);
    }

    private static void compareRun(String text, NameCalls calls, Model model, int fuel) {
        model.run(fuel);
        endings[model.ending]++;
        String of = " of run(" + fuel + ") behind " + text;
        Checks.due("the answer" + of, calls.run(fuel), model.ending);
        Checks.due("prints" + of, calls.prints(), model.prints.size());
        for (int i = 0; i < model.prints.size(); i++) {
            Checks.due("printed(" + i + ")" + of, calls.printed(i), model.prints.get(i));
        }
        Checks.due("printed behind the last" + of, calls.printed(model.prints.size()), 4294967296L);
        Checks.due("cost" + of, calls.cost(), model.cost);
        Checks.due("deepest" + of, calls.deepest(), model.deepest);
        Checks.due("calls" + of, calls.calls(), model.calls);
    }
}
